section
-- ===== PART A: goes FIRST, ahead of the names: the tables' words, and 'selects' of the private methods out of them =====
/-- a private method of a class that the tables say can be made, by its rows of tables_1 -/
def lw_okq (q : MethodName × Nat) : Prop := (q.1.cls ≠ "java/lang/invoke/MethodHandle" ∧ q.1.cls ≠ "java/lang/invoke/VarHandle") ∧ Cond.instantiable q.1.cls q.2 ∈ tables_1 ∧ Cond.privateMethod q.1 ∈ tables_1 ∧ Cond.instanceMethod q.1 ∈ tables_1
theorem lw_p0 : lw_okq (⟨"SledgeRace", "countOf", "(I)I"⟩, 6) := ⟨⟨by decide +kernel, by decide +kernel⟩, List.mem_of_getElem? (i := 14) (by decide +kernel), List.mem_of_getElem? (i := 167) (by decide +kernel), List.mem_of_getElem? (i := 168) (by decide +kernel)⟩
theorem lw_p1 : lw_okq (⟨"SledgeRace", "teamsAtEnd", "()I"⟩, 6) := ⟨⟨by decide +kernel, by decide +kernel⟩, List.mem_of_getElem? (i := 14) (by decide +kernel), List.mem_of_getElem? (i := 171) (by decide +kernel), List.mem_of_getElem? (i := 172) (by decide +kernel)⟩
theorem lw_p2 : lw_okq (⟨"SledgeRace", "ropesBroken", "()I"⟩, 6) := ⟨⟨by decide +kernel, by decide +kernel⟩, List.mem_of_getElem? (i := 14) (by decide +kernel), List.mem_of_getElem? (i := 179) (by decide +kernel), List.mem_of_getElem? (i := 180) (by decide +kernel)⟩
theorem lw_p3 : lw_okq (⟨"SledgeRace$Team", "rollersLying", "(I)I"⟩, 20) := ⟨⟨by decide +kernel, by decide +kernel⟩, List.mem_of_getElem? (i := 49) (by decide +kernel), List.mem_of_getElem? (i := 192) (by decide +kernel), List.mem_of_getElem? (i := 193) (by decide +kernel)⟩
theorem lw_p4 : lw_okq (⟨"SledgeRace$Team", "sideOf", "(I)I"⟩, 20) := ⟨⟨by decide +kernel, by decide +kernel⟩, List.mem_of_getElem? (i := 49) (by decide +kernel), List.mem_of_getElem? (i := 196) (by decide +kernel), List.mem_of_getElem? (i := 197) (by decide +kernel)⟩
theorem lw_p5 : lw_okq (⟨"SledgeRace", "teamAtRank", "(I)I"⟩, 6) := ⟨⟨by decide +kernel, by decide +kernel⟩, List.mem_of_getElem? (i := 14) (by decide +kernel), List.mem_of_getElem? (i := 200) (by decide +kernel), List.mem_of_getElem? (i := 201) (by decide +kernel)⟩
theorem lw_p6 : lw_okq (⟨"SledgeRace", "rankOf", "(LSledgeRace$Team;)I"⟩, 6) := ⟨⟨by decide +kernel, by decide +kernel⟩, List.mem_of_getElem? (i := 14) (by decide +kernel), List.mem_of_getElem? (i := 204) (by decide +kernel), List.mem_of_getElem? (i := 205) (by decide +kernel)⟩
theorem lw_p7 : lw_okq (⟨"java/lang/Throwable", "fillInStackTrace", "(I)Ljava/lang/Throwable;"⟩, 6) := ⟨⟨by decide +kernel, by decide +kernel⟩, List.mem_of_getElem? (i := 263) (by decide +kernel), List.mem_of_getElem? (i := 261) (by decide +kernel), List.mem_of_getElem? (i := 262) (by decide +kernel)⟩
theorem lw_p8 : lw_okq (⟨"SledgeRace", "requireStart", "()V"⟩, 6) := ⟨⟨by decide +kernel, by decide +kernel⟩, List.mem_of_getElem? (i := 14) (by decide +kernel), List.mem_of_getElem? (i := 293) (by decide +kernel), List.mem_of_getElem? (i := 294) (by decide +kernel)⟩
theorem lw_p9 : lw_okq (⟨"SledgeRace", "teamNumbered", "(I)LSledgeRace$Team;"⟩, 6) := ⟨⟨by decide +kernel, by decide +kernel⟩, List.mem_of_getElem? (i := 14) (by decide +kernel), List.mem_of_getElem? (i := 358) (by decide +kernel), List.mem_of_getElem? (i := 359) (by decide +kernel)⟩
theorem lw_p10 : lw_okq (⟨"SledgeRace", "passTick", "()V"⟩, 6) := ⟨⟨by decide +kernel, by decide +kernel⟩, List.mem_of_getElem? (i := 14) (by decide +kernel), List.mem_of_getElem? (i := 396) (by decide +kernel), List.mem_of_getElem? (i := 397) (by decide +kernel)⟩
theorem lw_p11 : lw_okq (⟨"SledgeRace$Team", "breakRope", "()V"⟩, 20) := ⟨⟨by decide +kernel, by decide +kernel⟩, List.mem_of_getElem? (i := 49) (by decide +kernel), List.mem_of_getElem? (i := 408) (by decide +kernel), List.mem_of_getElem? (i := 409) (by decide +kernel)⟩
theorem lw_p12 : lw_okq (⟨"SledgeRace$Team", "breathe", "(I)V"⟩, 20) := ⟨⟨by decide +kernel, by decide +kernel⟩, List.mem_of_getElem? (i := 49) (by decide +kernel), List.mem_of_getElem? (i := 413) (by decide +kernel), List.mem_of_getElem? (i := 414) (by decide +kernel)⟩
theorem lw_p13 : lw_okq (⟨"SledgeRace$Team", "moveOn", "()V"⟩, 20) := ⟨⟨by decide +kernel, by decide +kernel⟩, List.mem_of_getElem? (i := 49) (by decide +kernel), List.mem_of_getElem? (i := 429) (by decide +kernel), List.mem_of_getElem? (i := 430) (by decide +kernel)⟩
theorem lw_p14 : lw_okq (⟨"SledgeRace$Team", "sendRunners", "()V"⟩, 20) := ⟨⟨by decide +kernel, by decide +kernel⟩, List.mem_of_getElem? (i := 49) (by decide +kernel), List.mem_of_getElem? (i := 433) (by decide +kernel), List.mem_of_getElem? (i := 434) (by decide +kernel)⟩
theorem lw_p15 : lw_okq (⟨"SledgeRace$Team", "lastBehind", "()I"⟩, 20) := ⟨⟨by decide +kernel, by decide +kernel⟩, List.mem_of_getElem? (i := 49) (by decide +kernel), List.mem_of_getElem? (i := 437) (by decide +kernel), List.mem_of_getElem? (i := 438) (by decide +kernel)⟩
def lw_privs_1 : List (MethodName × Nat) := [(⟨"SledgeRace", "countOf", "(I)I"⟩, 6), (⟨"SledgeRace", "teamsAtEnd", "()I"⟩, 6), (⟨"SledgeRace", "ropesBroken", "()I"⟩, 6), (⟨"SledgeRace$Team", "rollersLying", "(I)I"⟩, 20), (⟨"SledgeRace$Team", "sideOf", "(I)I"⟩, 20), (⟨"SledgeRace", "teamAtRank", "(I)I"⟩, 6), (⟨"SledgeRace", "rankOf", "(LSledgeRace$Team;)I"⟩, 6), (⟨"java/lang/Throwable", "fillInStackTrace", "(I)Ljava/lang/Throwable;"⟩, 6), (⟨"SledgeRace", "requireStart", "()V"⟩, 6), (⟨"SledgeRace", "teamNumbered", "(I)LSledgeRace$Team;"⟩, 6), (⟨"SledgeRace", "passTick", "()V"⟩, 6), (⟨"SledgeRace$Team", "breakRope", "()V"⟩, 20), (⟨"SledgeRace$Team", "breathe", "(I)V"⟩, 20), (⟨"SledgeRace$Team", "moveOn", "()V"⟩, 20), (⟨"SledgeRace$Team", "sendRunners", "()V"⟩, 20), (⟨"SledgeRace$Team", "lastBehind", "()I"⟩, 20)]
theorem lw_r1 : ∀ q ∈ lw_privs_1, lw_okq q := List.forall_mem_cons.mpr ⟨lw_p0, List.forall_mem_cons.mpr ⟨lw_p1, List.forall_mem_cons.mpr ⟨lw_p2, List.forall_mem_cons.mpr ⟨lw_p3, List.forall_mem_cons.mpr ⟨lw_p4, List.forall_mem_cons.mpr ⟨lw_p5, List.forall_mem_cons.mpr ⟨lw_p6, List.forall_mem_cons.mpr ⟨lw_p7, List.forall_mem_cons.mpr ⟨lw_p8, List.forall_mem_cons.mpr ⟨lw_p9, List.forall_mem_cons.mpr ⟨lw_p10, List.forall_mem_cons.mpr ⟨lw_p11, List.forall_mem_cons.mpr ⟨lw_p12, List.forall_mem_cons.mpr ⟨lw_p13, List.forall_mem_cons.mpr ⟨lw_p14, List.forall_mem_cons.mpr ⟨lw_p15, fun _ h => absurd h List.not_mem_nil⟩⟩⟩⟩⟩⟩⟩⟩⟩⟩⟩⟩⟩⟩⟩⟩
theorem lw_p16 : lw_okq (⟨"SledgeRace", "lookAhead", "(LSledgeRace$Team;LSledgeRace$Team;II)V"⟩, 6) := ⟨⟨by decide +kernel, by decide +kernel⟩, List.mem_of_getElem? (i := 14) (by decide +kernel), List.mem_of_getElem? (i := 494) (by decide +kernel), List.mem_of_getElem? (i := 495) (by decide +kernel)⟩
theorem lw_p17 : lw_okq (⟨"SledgeRace", "rankOfTrialAmongRivals", "(I)I"⟩, 6) := ⟨⟨by decide +kernel, by decide +kernel⟩, List.mem_of_getElem? (i := 14) (by decide +kernel), List.mem_of_getElem? (i := 505) (by decide +kernel), List.mem_of_getElem? (i := 506) (by decide +kernel)⟩
theorem lw_p18 : lw_okq (⟨"SledgeRaceModel", "fail", "(I)I"⟩, 9) := ⟨⟨by decide +kernel, by decide +kernel⟩, List.mem_of_getElem? (i := 517) (by decide +kernel), List.mem_of_getElem? (i := 562) (by decide +kernel), List.mem_of_getElem? (i := 563) (by decide +kernel)⟩
theorem lw_p19 : lw_okq (⟨"SledgeRaceModel", "stretchAt", "(I)I"⟩, 9) := ⟨⟨by decide +kernel, by decide +kernel⟩, List.mem_of_getElem? (i := 517) (by decide +kernel), List.mem_of_getElem? (i := 570) (by decide +kernel), List.mem_of_getElem? (i := 571) (by decide +kernel)⟩
theorem lw_p20 : lw_okq (⟨"SledgeRaceModel", "begin", "(I)V"⟩, 9) := ⟨⟨by decide +kernel, by decide +kernel⟩, List.mem_of_getElem? (i := 517) (by decide +kernel), List.mem_of_getElem? (i := 585) (by decide +kernel), List.mem_of_getElem? (i := 586) (by decide +kernel)⟩
theorem lw_p21 : lw_okq (⟨"SledgeRaceModel", "set", "(III)V"⟩, 9) := ⟨⟨by decide +kernel, by decide +kernel⟩, List.mem_of_getElem? (i := 517) (by decide +kernel), List.mem_of_getElem? (i := 589) (by decide +kernel), List.mem_of_getElem? (i := 590) (by decide +kernel)⟩
theorem lw_p22 : lw_okq (⟨"SledgeRaceModel", "get", "(II)I"⟩, 9) := ⟨⟨by decide +kernel, by decide +kernel⟩, List.mem_of_getElem? (i := 517) (by decide +kernel), List.mem_of_getElem? (i := 593) (by decide +kernel), List.mem_of_getElem? (i := 594) (by decide +kernel)⟩
theorem lw_p23 : lw_okq (⟨"SledgeRaceModel", "isTeam", "(I)Z"⟩, 9) := ⟨⟨by decide +kernel, by decide +kernel⟩, List.mem_of_getElem? (i := 517) (by decide +kernel), List.mem_of_getElem? (i := 601) (by decide +kernel), List.mem_of_getElem? (i := 602) (by decide +kernel)⟩
theorem lw_p24 : lw_okq (⟨"SledgeRaceModel", "tickOn", "()V"⟩, 9) := ⟨⟨by decide +kernel, by decide +kernel⟩, List.mem_of_getElem? (i := 517) (by decide +kernel), List.mem_of_getElem? (i := 613) (by decide +kernel), List.mem_of_getElem? (i := 614) (by decide +kernel)⟩
theorem lw_p25 : lw_okq (⟨"SledgeRaceModel", "tickOf", "(I)V"⟩, 9) := ⟨⟨by decide +kernel, by decide +kernel⟩, List.mem_of_getElem? (i := 517) (by decide +kernel), List.mem_of_getElem? (i := 617) (by decide +kernel), List.mem_of_getElem? (i := 618) (by decide +kernel)⟩
theorem lw_p26 : lw_okq (⟨"SledgeRaceModel", "pull", "(I)I"⟩, 9) := ⟨⟨by decide +kernel, by decide +kernel⟩, List.mem_of_getElem? (i := 517) (by decide +kernel), List.mem_of_getElem? (i := 621) (by decide +kernel), List.mem_of_getElem? (i := 622) (by decide +kernel)⟩
theorem lw_p27 : lw_okq (⟨"SledgeRaceModel", "breathe", "(II)V"⟩, 9) := ⟨⟨by decide +kernel, by decide +kernel⟩, List.mem_of_getElem? (i := 517) (by decide +kernel), List.mem_of_getElem? (i := 626) (by decide +kernel), List.mem_of_getElem? (i := 627) (by decide +kernel)⟩
theorem lw_p28 : lw_okq (⟨"SledgeRaceModel", "roll", "(I)V"⟩, 9) := ⟨⟨by decide +kernel, by decide +kernel⟩, List.mem_of_getElem? (i := 517) (by decide +kernel), List.mem_of_getElem? (i := 631) (by decide +kernel), List.mem_of_getElem? (i := 632) (by decide +kernel)⟩
theorem lw_p29 : lw_okq (⟨"SledgeRaceModel", "way", "(I)I"⟩, 9) := ⟨⟨by decide +kernel, by decide +kernel⟩, List.mem_of_getElem? (i := 517) (by decide +kernel), List.mem_of_getElem? (i := 635) (by decide +kernel), List.mem_of_getElem? (i := 636) (by decide +kernel)⟩
theorem lw_p30 : lw_okq (⟨"SledgeRaceModel", "drag", "(I)I"⟩, 9) := ⟨⟨by decide +kernel, by decide +kernel⟩, List.mem_of_getElem? (i := 517) (by decide +kernel), List.mem_of_getElem? (i := 639) (by decide +kernel), List.mem_of_getElem? (i := 640) (by decide +kernel)⟩
theorem lw_p31 : lw_okq (⟨"SledgeRaceModel", "many", "(II)I"⟩, 9) := ⟨⟨by decide +kernel, by decide +kernel⟩, List.mem_of_getElem? (i := 517) (by decide +kernel), List.mem_of_getElem? (i := 643) (by decide +kernel), List.mem_of_getElem? (i := 644) (by decide +kernel)⟩
def lw_privs_2 : List (MethodName × Nat) := [(⟨"SledgeRace", "lookAhead", "(LSledgeRace$Team;LSledgeRace$Team;II)V"⟩, 6), (⟨"SledgeRace", "rankOfTrialAmongRivals", "(I)I"⟩, 6), (⟨"SledgeRaceModel", "fail", "(I)I"⟩, 9), (⟨"SledgeRaceModel", "stretchAt", "(I)I"⟩, 9), (⟨"SledgeRaceModel", "begin", "(I)V"⟩, 9), (⟨"SledgeRaceModel", "set", "(III)V"⟩, 9), (⟨"SledgeRaceModel", "get", "(II)I"⟩, 9), (⟨"SledgeRaceModel", "isTeam", "(I)Z"⟩, 9), (⟨"SledgeRaceModel", "tickOn", "()V"⟩, 9), (⟨"SledgeRaceModel", "tickOf", "(I)V"⟩, 9), (⟨"SledgeRaceModel", "pull", "(I)I"⟩, 9), (⟨"SledgeRaceModel", "breathe", "(II)V"⟩, 9), (⟨"SledgeRaceModel", "roll", "(I)V"⟩, 9), (⟨"SledgeRaceModel", "way", "(I)I"⟩, 9), (⟨"SledgeRaceModel", "drag", "(I)I"⟩, 9), (⟨"SledgeRaceModel", "many", "(II)I"⟩, 9)]
theorem lw_r2 : ∀ q ∈ lw_privs_2, lw_okq q := List.forall_mem_cons.mpr ⟨lw_p16, List.forall_mem_cons.mpr ⟨lw_p17, List.forall_mem_cons.mpr ⟨lw_p18, List.forall_mem_cons.mpr ⟨lw_p19, List.forall_mem_cons.mpr ⟨lw_p20, List.forall_mem_cons.mpr ⟨lw_p21, List.forall_mem_cons.mpr ⟨lw_p22, List.forall_mem_cons.mpr ⟨lw_p23, List.forall_mem_cons.mpr ⟨lw_p24, List.forall_mem_cons.mpr ⟨lw_p25, List.forall_mem_cons.mpr ⟨lw_p26, List.forall_mem_cons.mpr ⟨lw_p27, List.forall_mem_cons.mpr ⟨lw_p28, List.forall_mem_cons.mpr ⟨lw_p29, List.forall_mem_cons.mpr ⟨lw_p30, List.forall_mem_cons.mpr ⟨lw_p31, fun _ h => absurd h List.not_mem_nil⟩⟩⟩⟩⟩⟩⟩⟩⟩⟩⟩⟩⟩⟩⟩⟩
theorem lw_p32 : lw_okq (⟨"SledgeRaceModel", "where", "(II)I"⟩, 9) := ⟨⟨by decide +kernel, by decide +kernel⟩, List.mem_of_getElem? (i := 517) (by decide +kernel), List.mem_of_getElem? (i := 647) (by decide +kernel), List.mem_of_getElem? (i := 648) (by decide +kernel)⟩
theorem lw_p33 : lw_okq (⟨"SledgeRaceModel", "isCarried", "(II)Z"⟩, 9) := ⟨⟨by decide +kernel, by decide +kernel⟩, List.mem_of_getElem? (i := 517) (by decide +kernel), List.mem_of_getElem? (i := 651) (by decide +kernel), List.mem_of_getElem? (i := 652) (by decide +kernel)⟩
theorem lw_p34 : lw_okq (⟨"SledgeRaceModel", "runner", "(II)V"⟩, 9) := ⟨⟨by decide +kernel, by decide +kernel⟩, List.mem_of_getElem? (i := 517) (by decide +kernel), List.mem_of_getElem? (i := 655) (by decide +kernel), List.mem_of_getElem? (i := 656) (by decide +kernel)⟩
theorem lw_p35 : lw_okq (⟨"SledgeRaceModel", "ended", "()I"⟩, 9) := ⟨⟨by decide +kernel, by decide +kernel⟩, List.mem_of_getElem? (i := 517) (by decide +kernel), List.mem_of_getElem? (i := 659) (by decide +kernel), List.mem_of_getElem? (i := 660) (by decide +kernel)⟩
theorem lw_p36 : lw_okq (⟨"SledgeRaceModel", "counted", "(I)I"⟩, 9) := ⟨⟨by decide +kernel, by decide +kernel⟩, List.mem_of_getElem? (i := 517) (by decide +kernel), List.mem_of_getElem? (i := 671) (by decide +kernel), List.mem_of_getElem? (i := 672) (by decide +kernel)⟩
theorem lw_p37 : lw_okq (⟨"SledgeRaceModel", "teamTold", "(II)I"⟩, 9) := ⟨⟨by decide +kernel, by decide +kernel⟩, List.mem_of_getElem? (i := 517) (by decide +kernel), List.mem_of_getElem? (i := 679) (by decide +kernel), List.mem_of_getElem? (i := 680) (by decide +kernel)⟩
theorem lw_p38 : lw_okq (⟨"SledgeRaceModel", "teamAt", "(I)I"⟩, 9) := ⟨⟨by decide +kernel, by decide +kernel⟩, List.mem_of_getElem? (i := 517) (by decide +kernel), List.mem_of_getElem? (i := 695) (by decide +kernel), List.mem_of_getElem? (i := 696) (by decide +kernel)⟩
theorem lw_p39 : lw_okq (⟨"SledgeRaceModel", "rankOf", "(I)I"⟩, 9) := ⟨⟨by decide +kernel, by decide +kernel⟩, List.mem_of_getElem? (i := 517) (by decide +kernel), List.mem_of_getElem? (i := 699) (by decide +kernel), List.mem_of_getElem? (i := 700) (by decide +kernel)⟩
theorem lw_p40 : lw_okq (⟨"SledgeRaceModel", "isAhead", "(II)Z"⟩, 9) := ⟨⟨by decide +kernel, by decide +kernel⟩, List.mem_of_getElem? (i := 517) (by decide +kernel), List.mem_of_getElem? (i := 703) (by decide +kernel), List.mem_of_getElem? (i := 704) (by decide +kernel)⟩
def lw_privs_3 : List (MethodName × Nat) := [(⟨"SledgeRaceModel", "where", "(II)I"⟩, 9), (⟨"SledgeRaceModel", "isCarried", "(II)Z"⟩, 9), (⟨"SledgeRaceModel", "runner", "(II)V"⟩, 9), (⟨"SledgeRaceModel", "ended", "()I"⟩, 9), (⟨"SledgeRaceModel", "counted", "(I)I"⟩, 9), (⟨"SledgeRaceModel", "teamTold", "(II)I"⟩, 9), (⟨"SledgeRaceModel", "teamAt", "(I)I"⟩, 9), (⟨"SledgeRaceModel", "rankOf", "(I)I"⟩, 9), (⟨"SledgeRaceModel", "isAhead", "(II)Z"⟩, 9)]
theorem lw_r3 : ∀ q ∈ lw_privs_3, lw_okq q := List.forall_mem_cons.mpr ⟨lw_p32, List.forall_mem_cons.mpr ⟨lw_p33, List.forall_mem_cons.mpr ⟨lw_p34, List.forall_mem_cons.mpr ⟨lw_p35, List.forall_mem_cons.mpr ⟨lw_p36, List.forall_mem_cons.mpr ⟨lw_p37, List.forall_mem_cons.mpr ⟨lw_p38, List.forall_mem_cons.mpr ⟨lw_p39, List.forall_mem_cons.mpr ⟨lw_p40, fun _ h => absurd h List.not_mem_nil⟩⟩⟩⟩⟩⟩⟩⟩⟩
def lw_privs : List (MethodName × Nat) := lw_privs_1 ++ (lw_privs_2 ++ (lw_privs_3))
def lw_tbl : List Cond := k2_sels lw_privs ++ tables_1
theorem lw_privs_ok : ∀ q ∈ lw_privs, lw_okq q := by
  show ∀ q ∈ lw_privs_1 ++ (lw_privs_2 ++ (lw_privs_3)), lw_okq q
  exact List.forall_mem_append.mpr ⟨lw_r1, List.forall_mem_append.mpr ⟨lw_r2, lw_r3⟩⟩
/-- the streams that the claim lets the run draw from -/
abbrev lw_cs : List Choice := [Jvm.Choice.named "NaN.bits"]
theorem lw_bits : nanBits ∈ lw_cs := by first | decide | exact List.mem_cons_self | simp [lw_cs, nanBits]
-- ===== end of PART A; then your names; then what follows =====
end
section
/-! ===== BEGIN words of one list among another's, by their places ===== -/
theorem goodIn_r {big : List Cond} (ws : List Cond) (ps : List Nat) (hp : ws = ps.filterMap (fun i => big[i]?)) (h : ws.all goodWord = true) : GoodIn big ws := by
  intro w hw
  have h1 := List.all_eq_true.mp h w hw
  rw [hp] at hw
  obtain ⟨i, -, hi⟩ := List.mem_filterMap.mp hw
  have hm : w ∈ big := by first | exact List.mem_of_getElem? hi | exact List.getElem?_mem hi
  exact ⟨hm, good_of_word h1⟩
theorem goodIn_app {big a b : List Cond} (ha : GoodIn big a) (hb : GoodIn big b) : GoodIn big (a ++ b) := fun w h => (List.mem_append.mp h).elim (ha w) (hb w)
theorem goodIn_ca {big a b : List Cond} {c : Cond} (ha : GoodIn big (c :: a)) (hb : GoodIn big b) : GoodIn big (c :: (a ++ b)) := fun w h => (List.mem_cons.mp h).elim (fun e => ha w (List.mem_cons.mpr (Or.inl e))) (fun h => (List.mem_append.mp h).elim (fun h => ha w (List.mem_cons.mpr (Or.inr h))) (hb w))
theorem goodIn_sub {big ws : List Cond} (hm : ∀ w ∈ ws, w ∈ big) (h : ws.all goodWord = true) : GoodIn big ws := fun w hw => ⟨hm w hw, good_of_word (List.all_eq_true.mp h w hw)⟩
/-! ===== END ===== -/

/-! ===== BEGIN exceptions that leave a method, and their catching by the caller (launches without stack traces) ===== -/
section VXA
/-! The laws vx_back, vx_callV, vx_callS, vx_callSW, vx_throw0, vx_throwS follow proofs of the library, with one case more: JvmDerived/Free/Laws.lean (Back.of_free), Shelf42/LK1.lean (callV, callS), Shelf/KitTraced.lean (throwNew0V, throwNewS). -/
/-- where a method has thrown q: the class by its name, the cell, what was written, the world -/
def vx_T (XC : String → State → State → Prop) (st : State) (q : Addr) (t : State) (mc ms : Nat) (free : Addr → Prop) : Prop :=
  ∃ (E : String) (ce : Cell) (L : List Loc), XC E st t ∧ t.heap[q]? = some ce ∧ ce.vm = .none ∧ st.vm.findClass E = some ce.cls ∧ st.WarmedH t.vm ∧ st.sameButNew ({ t with vm := st.vm } : State) L mc ms ∧ ∀ z ∈ L, free z.base
def vx_Q (Qc : Array Value → State → Outcome → State → Prop) (XC : String → State → State → Prop) (mc ms : Nat) (free : Addr → Prop) : Array Value → State → Outcome → State → Prop := fun a st o t =>
  (Qc a st o t ∧ ∃ L, FrameEnd st o t L mc ms ∧ ∀ q ∈ L, free q.base) ∨ ∃ q, o = .threw q ∧ vx_T XC st q t mc ms free
/-- a callee that returns or throws -/
def vx_Met (l : Launch) (y : MethodName) (ws : List Cond) (rm : Room) (Pc : Array Value → State → Prop) (Qc : Array Value → State → Outcome → State → Prop) (XC : String → State → State → Prop) (mc ms : Nat) (free : Addr → Prop) : Prop :=
  MetFree l y (headSpec ws rm) Pc (fun _ _ _ _ _ => True) (vx_Q Qc XC mc ms free)
def vx_Post (XC : String → State → State → Prop) (mc ms : Nat) (free : Addr → Prop) : Pt → Array Value → Addr → Pt → Prop := fun A a q B =>
  ∃ (g : JFrame) (mk : MethodId) (t : State) (L : List Loc) (E : String) (ce : Cell), B.U.heap = t.heap ∧ B.U.vm = t.vm ∧ XC E (A.U.calling g mk a) t ∧ t.heap[q]? = some ce ∧ ce.vm = .none ∧ A.U.vm.findClass E = some ce.cls ∧ B.locs = A.locs ++ L ∧ (∀ z ∈ L, free z.base) ∧ B.cells = A.cells + mc ∧ B.slots = A.slots + ms
def vx_Back (l : Launch) (R : Room) (p : Program) (e : Env) (below : List Frame) (s : State) (sargs : Array Value) (y : MethodName) (len W9 : Nat)
    (Pre : Pt → Array Value → Prop) (Post : Pt → Array Value → Option Value → Pt → Prop) (PostX : Pt → Array Value → Addr → Pt → Prop) : Prop :=
  ∀ (m : MethodId) (meth : Method) (c : Code) (A : Pt) (g : JFrame) (ig : Instr) (mk : MethodId) (a : Array Value),
    Stand p l e R s m sargs below meth c A.U A.locs A.cells A.slots → g.method = m → g.locals.size = c.maxLocals → decode c.code g.pc = .ok (ig, len) →
    2 * g.monitorRoom + (g.stack.map fun v => v.category).sum ≤ W9 → A.U.methodNamed? y = some mk → Pre A a →
    (∃ (v : Option Value) (B : Pt), Stand p l e R s m sargs below meth c B.U B.locs B.cells B.slots ∧ Post A a v B ∧
      Steps p.tables e below (doInvoke e (A.U.setTop g) [] mk a).1 (B.U.setTop { g with pc := g.pc + len, stack := v.toList ++ g.stack })) ∨
    (∃ (q : Addr) (B : Pt), Stand p l e R s m sargs below meth c B.U B.locs B.cells B.slots ∧ PostX A a q B ∧
      Steps p.tables e below (doInvoke e (A.U.setTop g) [] mk a).1 ((B.U.setTop g).pushFrame (.throwing q)))
section Payer
variable {l : Launch} {R : Room} {p : Program} {e : Env} {below : List Frame} {s : State} {sargs : Array Value} {y : MethodName} {len W9 : Nat}
theorem vx_back {ws : List Cond} {rm : Room} {Pc : Array Value → State → Prop} {Qc : Array Value → State → Outcome → State → Prop} {XC : String → State → State → Prop} {mc ms : Nat} {free : Addr → Prop} {bytes : ByteArray} {maxL : Nat} {ret : Option FieldType}
    (hM : vx_Met l y ws rm Pc Qc XC mc ms free) (hblind : FrameBlind Pc) (hrc : rm.cells = mc) (hrs : rm.slots = ms)
    (hframes : rm.frames + 1 ≤ R.frames) (hlocals : W9 + (maxL + 11) + rm.locals ≤ R.locals)
    (hws : ∀ w ∈ ws, ∀ a' U, s.WarmedH U.vm → w.before a' U = true) (hcode : Cond.code y bytes maxL ret ∈ ws) (hinit : ∀ a' U, s.WarmedH U.vm → (Cond.initialized y.cls).before a' U = true) :
    vx_Back l R p e below s sargs y len W9 (PreOf R mc ms Pc) (PostOf Qc mc ms free) (vx_Post XC mc ms free) := by
  intro m meth c A g ig mk a X hg hsize hdg hW hn hp
  have h1 : (headSpec ws rm).pre.before a A.U = true := atoms_intro fun w hw => hws w hw _ _ X.warmed
  have h2 : (Cond.code y bytes maxL ret).before a A.U = true := hws _ hcode _ _ X.warmed
  have h3 : (Cond.initialized y.cls).before a A.U = true := hinit _ _ X.warmed
  have h4 : A.cells + (headSpec ws rm).room.cells ≤ R.cells := by rw [show (headSpec ws rm).room.cells = mc from hrc]; exact hp.1
  have h5 : A.slots + (headSpec ws rm).room.slots ≤ R.slots := by rw [show (headSpec ws rm).room.slots = ms from hrs]; exact hp.2.1
  have hPc : Pc a (A.U.calling g mk a) := hblind _ _ _ _ hp.2.2
  obtain ⟨U, Ls, c0, s0⟩ := A
  dsimp only [Pt.U, Pt.locs, Pt.cells, Pt.slots] at h1 h2 h3 h4 h5 X hn hPc ⊢
  obtain ⟨methY, cY, hmY, hcY, -, hlY, -, -, -, -⟩ := Cond.code_spec hn h2
  obtain ⟨kY, hkY, -⟩ := className_of_methodNamed hn
  have hinitY : kY.init = .initialized := Cond.initialized_spec (findClass_of_methodNamed hn) hkY h3
  have h : At U g.method c below := by rw [hg]; exact X.here
  have hlocals9 : W9 + (maxL + 11) + (headSpec ws rm).room.locals ≤ R.locals := hlocals
  have happ : (headSpec ws rm).appliesLoose y e.platform (U.calling g mk a) = true :=
    Spec.appliesLoose_calling (g := g) h hdg hn hkY hinitY
      (X.room_calling (g := g) (R' := (headSpec ws rm).room) hsize hmY hcY hframes (by rw [hlY]; omega) h4 h5) h1
  obtain ⟨mid, hmid⟩ := h.above
  have hfr : (U.setTop g).frames = (.java g :: mid) ++ below := by rw [State.frames_setTop' g h.top, hmid]; rfl
  obtain ⟨o, s₂, hsteps, -, hend, hq⟩ := Steps.callFree hM p X.admits X.cas X.clock (acts := []) hfr happ hPc trivial
  have hq' : vx_Q Qc XC mc ms free a (U.calling g mk a) o s₂ := hq
  rw [State.frames_setTop' g h.top] at hend
  obtain ⟨g₀, hg0⟩ := Option.isSome_iff_exists.mp h.top
  obtain ⟨r, hr⟩ := State.topJava?_eq_some.mp hg0
  have hr' : (({ U with heap := s₂.heap, slotsUsed := s₂.slotsUsed } : State).setVm s₂.vm).frames = .java g₀ :: r := hr
  rcases hq' with ⟨hqc, L, hfe, hL⟩ | ⟨q, rfl, E, ce, L, hx, hce, hcv, hcl, hW₂, hsm, hL⟩
  · obtain ⟨⟨v, rfl⟩, hW₂, e2, q2, q3, q4, q5, q6⟩ := id hfe
    have e3 : s₂ = ({ (U.calling g mk a).setFrames s₂.frames with heap := s₂.heap, slotsUsed := s₂.slotsUsed } : State).setVm s₂.vm := by
      have : s₂ = ({ s₂ with vm := (U.calling g mk a).vm } : State).setVm s₂.vm := rfl
      rw [e2] at this
      exact this
    obtain ⟨c₂, i₂, len₂, hc₂, hd₂, hf₂⟩ := hend
    have hW' : U.WarmedH s₂.vm := hW₂
    have hcc : c₂ = c := by
      have h1 : s₂.code? g.method = U.code? g.method := by
        rw [State.code?_eq, State.code?_eq, hW'.alike.method?]
      exact Option.some.inj (hc₂.symm.trans (h1.trans h.code))
    subst hcc
    have hlen : len₂ = len := by rw [hdg] at hd₂; cases hd₂; rfl
    subst hlen
    have hs₂ : s₂ = (({ U with heap := s₂.heap, slotsUsed := s₂.slotsUsed } : State).setVm s₂.vm).setTop { g with pc := g.pc + len₂, stack := v.toList ++ g.stack } := by
      refine e3.trans ?_
      rw [hf₂, State.calling_eq h.top, State.setFrames_setFrames, State.setTop_of_frames _ hr', hr]
      rfl
    have hsame : U.sameButNew ({ U with heap := s₂.heap, slotsUsed := s₂.slotsUsed } : State) L mc ms := by
      refine ⟨?_, q2, q3, q4, q5, q6⟩
      obtain ⟨t, ht, -⟩ := State.frames_cons hr
      show ({ U with heap := s₂.heap, slotsUsed := s₂.slotsUsed } : State) = { U.setFrames U.frames with heap := s₂.heap, slotsUsed := s₂.slotsUsed }
      rw [State.setFrames_self ht]
    subst hg
    refine Or.inl ⟨v, ⟨(({ U with heap := s₂.heap, slotsUsed := s₂.slotsUsed } : State).setVm s₂.vm), Ls ++ L, c0 + mc, s0 + ms⟩,
      ⟨X.admits, X.cas, X.clock, X.frames, X.room, X.hears, X.method, X.code, (X.here.setHeapUsed s₂.heap s₂.slotsUsed).setVm hW'.alike, X.tail, State.WarmedH.trans X.warmed hW', X.limits, X.bytes, X.same.trans (hsame.setVm s.vm)⟩,
      ⟨g, mk, s₂, L, rfl, rfl, hqc, rfl, hL, rfl, rfl⟩, ?_⟩
    show Steps p.tables e below _ ((({ U with heap := s₂.heap, slotsUsed := s₂.slotsUsed } : State).setVm s₂.vm).setTop { g with pc := g.pc + len₂, stack := v.toList ++ g.stack })
    rw [← hs₂]
    exact hsteps
  · obtain ⟨e2, q2, q3, q4, q5, q6⟩ := id hsm
    have e3 : s₂ = ({ (U.calling g mk a).setFrames s₂.frames with heap := s₂.heap, slotsUsed := s₂.slotsUsed } : State).setVm s₂.vm := by
      have : s₂ = ({ s₂ with vm := (U.calling g mk a).vm } : State).setVm s₂.vm := rfl
      rw [e2] at this
      exact this
    have hf₂ : s₂.frames = .throwing q :: .java g :: U.frames.tail := hend
    have hW' : U.WarmedH s₂.vm := hW₂
    have hs₂ : s₂ = ((({ U with heap := s₂.heap, slotsUsed := s₂.slotsUsed } : State).setVm s₂.vm).setTop g).pushFrame (.throwing q) := by
      refine e3.trans ?_
      rw [hf₂, State.calling_eq h.top, State.setFrames_setFrames, State.pushFrame, State.frames_setTop _ hr', State.setTop_of_frames _ hr', State.setFrames_setFrames, hr]
      rfl
    have hsame : U.sameButNew ({ U with heap := s₂.heap, slotsUsed := s₂.slotsUsed } : State) L mc ms := by
      refine ⟨?_, q2, q3, q4, q5, q6⟩
      obtain ⟨t, ht, -⟩ := State.frames_cons hr
      show ({ U with heap := s₂.heap, slotsUsed := s₂.slotsUsed } : State) = { U.setFrames U.frames with heap := s₂.heap, slotsUsed := s₂.slotsUsed }
      rw [State.setFrames_self ht]
    subst hg
    refine Or.inr ⟨q, ⟨(({ U with heap := s₂.heap, slotsUsed := s₂.slotsUsed } : State).setVm s₂.vm), Ls ++ L, c0 + mc, s0 + ms⟩,
      ⟨X.admits, X.cas, X.clock, X.frames, X.room, X.hears, X.method, X.code, (X.here.setHeapUsed s₂.heap s₂.slotsUsed).setVm hW'.alike, X.tail, State.WarmedH.trans X.warmed hW', X.limits, X.bytes, X.same.trans (hsame.setVm s.vm)⟩,
      ⟨g, mk, s₂, L, E, ce, rfl, rfl, hx, hce, hcv, hcl, rfl, hL, rfl, rfl⟩, ?_⟩
    show Steps p.tables e below _ (((({ U with heap := s₂.heap, slotsUsed := s₂.slotsUsed } : State).setVm s₂.vm).setTop g).pushFrame (.throwing q))
    rw [← hs₂]
    exact hsteps
end Payer
section Calls
variable {p : Program} {l : Launch} {e : Env} {R : Room} {s : State} {m : MethodId} {args : Array Value} {below : List Frame} {meth : Method} {c : Code} {T : State} {locs : List Loc} {cells slots : Nat}
theorem vx_callV (X : Stand p l e R s m args below meth c T locs cells slots) (hexec : p.tables.exec = Jvm.exec) {own C : String} {index : Nat} {y : MethodName} {bytes : ByteArray} {maxL : Nat} {ret : Option FieldType}
    (hown : s.vm.findClass own = some m.cls) (hlink : (Cond.methodLink own index y).before args s = true) (hinst : (Cond.instanceMethod y).before args s = true) (hsel : (Cond.selects C y y).before args s = true)
    (hcode : (Cond.code y bytes maxL ret).before args s = true) (hy : y.cls ≠ "java/lang/invoke/MethodHandle" ∧ y.cls ≠ "java/lang/invoke/VarHandle")
    {W9 : Nat} {Pre : Pt → Array Value → Prop} {Post : Pt → Array Value → Option Value → Pt → Prop} {PostX : Pt → Array Value → Addr → Pt → Prop} (hK : vx_Back l R p e below s args y 3 W9 Pre Post PostX)
    {b : Addr} {cellB : Cell} (hcell : T.heap[b]? = some cellB) (hobj : cellB.vm.isStatics = false) (hcls : s.vm.findClass C = some cellB.cls)
    {g : JFrame} (hg : g.method = m) (hsize : g.locals.size = c.maxLocals) {argsL rest : List Value} (hlen : ∀ sig, parseMethodDescriptor y.desc = some sig → argsL.length = sig.parameters.length)
    (hstack : g.stack = argsL.reverse ++ .ref b :: rest) (hW : 2 * g.monitorRoom + (rest.map fun v => v.category).sum ≤ W9) (hdg : decode c.code g.pc = .ok (.invokevirtual index, 3))
    (hpre : ∀ vm₁, s.WarmedH vm₁ → Pre ⟨T.setVm vm₁, locs, cells, slots⟩ (Value.ref b :: argsL).toArray) :
    (∃ (v : Option Value) (vm₁ : Vm) (B : Pt), s.WarmedH vm₁ ∧ Stand p l e R s m args below meth c B.U B.locs B.cells B.slots ∧ Post ⟨T.setVm vm₁, locs, cells, slots⟩ (Value.ref b :: argsL).toArray v B ∧
      ∀ target, Steps p.tables e below (B.U.setTop { g with pc := g.pc + 3, stack := v.toList ++ rest }) target → Steps p.tables e below (T.setTop g) target) ∨
    (∃ (q : Addr) (vm₁ : Vm) (B : Pt), s.WarmedH vm₁ ∧ Stand p l e R s m args below meth c B.U B.locs B.cells B.slots ∧ PostX ⟨T.setVm vm₁, locs, cells, slots⟩ (Value.ref b :: argsL).toArray q B ∧
      Steps p.tables e below (T.setTop g) ((B.U.setTop { g with stack := rest }).pushFrame (.throwing q))) := by
  obtain ⟨mk, methM, hnamed, hmethM, hstM, habM⟩ := Cond.instanceMethod_spec hinst
  obtain ⟨methM', cM, hmethM', -, -, -, -, -, -, hsigM⟩ := Cond.code_spec hnamed hcode
  cases hmethM.symm.trans hmethM'
  obtain ⟨c2, r2, m2, q1, q2, q3, q4, kP, hkP, hkPi⟩ := Cond.selects_spec hsel
  cases hcls.symm.trans q1
  cases (State.methodFound?_of_named hnamed hy).symm.trans q2
  cases hnamed.symm.trans q3
  have hselP : selectMethod e.platform s.vm cellB.cls mk = .method mk := by rw [Launch.admits_selectMethod X.admits]; exact q4
  obtain ⟨vm₁, X₁, hstep₁⟩ := X.invokevirtual hexec hown hlink hnamed hmethM hstM hkP hkPi hy (a := b) (cell := cellB) hcell
    (fun z h => by rw [h] at hobj; cases hobj) hselP hmethM habM hkP hkPi (g := g) hg (argsL := argsL) (rest := rest) (hlen _ hsigM) hstack hdg
  rcases hK m meth c ⟨T.setVm vm₁, locs, cells, slots⟩ { g with stack := rest } (.invokevirtual index) mk (Value.ref b :: argsL).toArray X₁ hg hsize hdg hW (X₁.named hnamed) (hpre vm₁ X₁.warmed) with ⟨v, B, X', hpost, hsteps⟩ | ⟨q, B, X', hpost, hsteps⟩
  · exact Or.inl ⟨v, vm₁, B, X₁.warmed, X', hpost, fun target h => hstep₁ _ fun acts => by rw [doInvoke_state]; exact hsteps.trans h⟩
  · exact Or.inr ⟨q, vm₁, B, X₁.warmed, X', hpost, hstep₁ _ fun acts => by rw [doInvoke_state]; exact hsteps⟩
theorem vx_callS (X : Stand p l e R s m args below meth c T locs cells slots) (hexec : p.tables.exec = Jvm.exec) {own : String} {index : Nat} {y : MethodName} {bytes : ByteArray} {maxL : Nat} {ret : Option FieldType}
    (hown : s.vm.findClass own = some m.cls) (hlink : (Cond.methodLink own index y).before args s = true) (hstat : (Cond.static y).before args s = true) (hinit : (Cond.initialized y.cls).before args s = true)
    (hcode : (Cond.code y bytes maxL ret).before args s = true) (hy : y.cls ≠ "java/lang/invoke/MethodHandle" ∧ y.cls ≠ "java/lang/invoke/VarHandle")
    {W9 : Nat} {Pre : Pt → Array Value → Prop} {Post : Pt → Array Value → Option Value → Pt → Prop} {PostX : Pt → Array Value → Addr → Pt → Prop} (hK : vx_Back l R p e below s args y 3 W9 Pre Post PostX)
    {g : JFrame} (hg : g.method = m) (hsize : g.locals.size = c.maxLocals) {argsL rest : List Value} (hlen : ∀ sig, parseMethodDescriptor y.desc = some sig → argsL.length = sig.parameters.length)
    (hstack : g.stack = argsL.reverse ++ rest) (hW : 2 * g.monitorRoom + (rest.map fun v => v.category).sum ≤ W9) (hdg : decode c.code g.pc = .ok (.invokestatic index, 3))
    (hpre : ∀ vm₁, s.WarmedH vm₁ → Pre ⟨T.setVm vm₁, locs, cells, slots⟩ argsL.toArray) :
    (∃ (v : Option Value) (vm₁ : Vm) (B : Pt), s.WarmedH vm₁ ∧ Stand p l e R s m args below meth c B.U B.locs B.cells B.slots ∧ Post ⟨T.setVm vm₁, locs, cells, slots⟩ argsL.toArray v B ∧
      ∀ target, Steps p.tables e below (B.U.setTop { g with pc := g.pc + 3, stack := v.toList ++ rest }) target → Steps p.tables e below (T.setTop g) target) ∨
    (∃ (q : Addr) (vm₁ : Vm) (B : Pt), s.WarmedH vm₁ ∧ Stand p l e R s m args below meth c B.U B.locs B.cells B.slots ∧ PostX ⟨T.setVm vm₁, locs, cells, slots⟩ argsL.toArray q B ∧
      Steps p.tables e below (T.setTop g) ((B.U.setTop { g with stack := rest }).pushFrame (.throwing q))) := by
  obtain ⟨mk, hnamed⟩ := Cond.code_named hcode
  obtain ⟨methM, cM, hmethM, -, -, -, -, -, -, hsigM⟩ := Cond.code_spec hnamed hcode
  have hstatic : methM.isStatic = true := Cond.static_spec hnamed hmethM hstat
  obtain ⟨kP, hkP, -⟩ := className_of_methodNamed hnamed
  have hinitP : kP.init = .initialized := Cond.initialized_spec (findClass_of_methodNamed hnamed) hkP hinit
  obtain ⟨vm₁, X₁, hstep₁⟩ := X.invokestatic hexec hown hlink hnamed hmethM hstatic hkP hinitP hy (g := g) hg (argsL := argsL) (rest := rest) (hlen _ hsigM) hstack hdg
  rcases hK m meth c ⟨T.setVm vm₁, locs, cells, slots⟩ { g with stack := rest } (.invokestatic index) mk argsL.toArray X₁ hg hsize hdg hW (X₁.named hnamed) (hpre vm₁ X₁.warmed) with ⟨v, B, X', hpost, hsteps⟩ | ⟨q, B, X', hpost, hsteps⟩
  · exact Or.inl ⟨v, vm₁, B, X₁.warmed, X', hpost, fun target h => hstep₁ _ fun acts => by rw [doInvoke_state]; exact hsteps.trans h⟩
  · exact Or.inr ⟨q, vm₁, B, X₁.warmed, X', hpost, hstep₁ _ fun acts => by rw [doInvoke_state]; exact hsteps⟩
end Calls
theorem vx_cls {s : State} {T : State} {vm₁ : Vm} {E : String} {k : ClassId} (hW : s.WarmedH vm₁) (h : (T.setVm vm₁).vm.findClass E = some k) : s.vm.findClass E = some k := by
  have h1 : vm₁.findClass E = some k := h
  rw [hW.alike.findClass] at h1
  exact h1
/-- the method's frame g, with q thrown over it -/
def vx_W (p : Program) (l : Launch) (e : Env) (R : Room) (s : State) (m : MethodId) (args : Array Value) (below : List Frame) (meth : Method) (c : Code) (H : Heap) (locs : List Loc) (cells slots : Nat) (Q : State → Prop) (g : JFrame) (q : Addr) : Prop :=
  ∀ T : State, T.heap = H → Stand p l e R s m args below meth c T locs cells slots → ∃ t, Steps p.tables e below ((T.setTop g).pushFrame (.throwing q)) t ∧ Q t
def vx_Run (p : Program) (l : Launch) (e : Env) (R : Room) (s : State) (m : MethodId) (args : Array Value) (below : List Frame) (meth : Method) (c : Code) (H : Heap) (locs : List Loc) (cells slots mc ms : Nat) (g : JFrame) (rest : List Value) (Qa : State → Outcome → State → Prop) (XC : String → State → State → Prop) (free : Addr → Prop) : Prop :=
  ∀ T : State, T.heap = H → Stand p l e R s m args below meth c T locs cells slots →
    (∃ (v : Option Value) (st₀ t T' : State) (L : List Loc), st₀.heap = H ∧ Stand p l e R s m args below meth c T' (locs ++ L) (cells + mc) (slots + ms) ∧ (∀ q ∈ L, free q.base) ∧ T'.heap = t.heap ∧ T'.vm = t.vm ∧ Qa st₀ (.returned v) t ∧
      Goes p e below T g T' { g with pc := g.pc + 3, stack := v.toList ++ rest }) ∨
    (∃ (q : Addr) (st₀ t T' : State) (L : List Loc) (E : String) (ce : Cell), st₀.heap = H ∧ Stand p l e R s m args below meth c T' (locs ++ L) (cells + mc) (slots + ms) ∧ (∀ z ∈ L, free z.base) ∧ T'.heap = t.heap ∧ T'.vm = t.vm ∧ XC E st₀ t ∧ t.heap[q]? = some ce ∧ ce.vm = .none ∧ s.vm.findClass E = some ce.cls ∧
      Steps p.tables e below (T.setTop g) ((T'.setTop { g with stack := rest }).pushFrame (.throwing q)))
def vx_X {S : Type} (px : S → Prop) (B : String → S → State → Prop) (A : Nat → Prop) : String → State → State → Prop := fun E st t => ∃ u : S, px u ∧ B E u t ∧ va_F A st t
section Runs
variable {p : Program} {l : Launch} {e : Env} {R : Room} {s : State} {m : MethodId} {args : Array Value} {below : List Frame} {meth : Method} {c : Code} {H : Heap} {locs : List Loc} {cells slots : Nat}
variable {y : MethodName} {bytes cc : ByteArray} {maxL nL mc ms n index : Nat} {ret : Option FieldType} {ws : List Cond} {rm : Room} {Pc : Array Value → State → Prop} {Qc : Array Value → State → Outcome → State → Prop} {XC : String → State → State → Prop} {free : Addr → Prop} {Ts : List Cond} {own C : String} {b : Addr} {As rest : List Value} {g : JFrame}
theorem vx_callBack (cb : CallB R s args own index y bytes maxL ret ws rm mc ms n) (hM : vx_Met l y ws rm Pc Qc XC mc ms free) (hbl : FrameBlind Pc) : vx_Back l R p e below s args y 3 8 (PreOf R mc ms Pc) (PostOf Qc mc ms free) (vx_Post XC mc ms free) := by
  obtain ⟨hrc, hrs, hfr, hlo, hws, hcw, -, hini, -⟩ := cb
  exact vx_back (bytes := bytes) (maxL := maxL) (ret := ret) hM hbl hrc hrs hfr hlo hws hcw (fun a' U hW => word_at hW (Or.inl (by first | rfl | simp [Cond.onTables, Cond.keeps, Cond.steady])) hini)
theorem vx_runV (S : CallFix p m c cc nL s args Ts own) (hM : vx_Met l y ws rm Pc Qc XC mc ms free) (cw : CallW R s args own C index y bytes maxL ret ws rm mc ms n) (hp : PreV s H C b Pc As)
    (hg : g.method = m) (hn : As.length = n) (hsize : g.locals.size = nL) (hstack : g.stack = As.reverse ++ .ref b :: rest) (hW : 2 * g.monitorRoom + (rest.map fun v => v.category).sum ≤ 8) (hdg : decode cc g.pc = .ok (.invokevirtual index, 3)) (hf : cells + mc ≤ R.cells ∧ slots + ms ≤ R.slots) :
    vx_Run p l e R s m args below meth c H locs cells slots mc ms g rest (Qc (Value.ref b :: As).toArray) XC free := by
  have hK : vx_Back l R p e below s args y 3 8 (PreOf R mc ms Pc) (PostOf Qc mc ms free) (vx_Post XC mc ms free) := vx_callBack cw.1 hM hp.1
  obtain ⟨⟨-, -, -, -, -, -, hcode, -, hy, hlen, hl⟩, hin, hse⟩ := cw
  obtain ⟨hx, hb, hml, ho, -⟩ := S
  obtain ⟨-, ⟨cellB, hcB, hoB, hclB⟩, hPc⟩ := hp
  intro T hT X
  rcases vx_callV X hx (C := C) (bytes := bytes) (maxL := maxL) (ret := ret) ho hl hin hse hcode hy hK (by rw [hT]; exact hcB) hoB hclB hg (hsize.trans hml.symm) (argsL := As) (rest := rest) (fun sig h => hn.trans (hlen sig h)) hstack hW (by rw [hb]; exact hdg)
    (fun vm₁ hW₁ => ⟨hf.1, hf.2, hPc (T.setVm vm₁) hT hW₁⟩) with ⟨v, vm₁, ⟨U', l2, c2, s2⟩, hW₁, X', ⟨g', mk, t, L, e1, e2, hq, h1, hL, h2, h3⟩, st⟩ | ⟨q, vm₁, ⟨U', l2, c2, s2⟩, hW₁, X', ⟨g', mk, t, L, E, ce, e1, e2, hq, hce, hcv, hcl, h1, hL, h2, h3⟩, st⟩
  · dsimp only [Pt.U, Pt.locs, Pt.cells, Pt.slots] at X' e1 e2 h1 h2 h3 st
    subst h1; subst h2; subst h3
    exact Or.inl ⟨v, (T.setVm vm₁).calling g' mk (Value.ref b :: As).toArray, t, U', L, hT, X', hL, e1, e2, hq, st⟩
  · dsimp only [Pt.U, Pt.locs, Pt.cells, Pt.slots] at X' e1 e2 h1 h2 h3 st hcl
    subst h1; subst h2; subst h3
    exact Or.inr ⟨q, (T.setVm vm₁).calling g' mk (Value.ref b :: As).toArray, t, U', L, E, ce, hT, X', hL, e1, e2, hq, hce, hcv, vx_cls hW₁ hcl, st⟩
theorem vx_runS (S : CallFix p m c cc nL s args Ts own) (hM : vx_Met l y ws rm Pc Qc XC mc ms free) (cw : CallB R s args own index y bytes maxL ret ws rm mc ms n ∧ (Cond.static y).before args s = true) (hp : PreS s H Pc As)
    (hg : g.method = m) (hn : As.length = n) (hsize : g.locals.size = nL) (hstack : g.stack = As.reverse ++ rest) (hW : 2 * g.monitorRoom + (rest.map fun v => v.category).sum ≤ 8) (hdg : decode cc g.pc = .ok (.invokestatic index, 3)) (hf : cells + mc ≤ R.cells ∧ slots + ms ≤ R.slots) :
    vx_Run p l e R s m args below meth c H locs cells slots mc ms g rest (Qc As.toArray) XC free := by
  have hK : vx_Back l R p e below s args y 3 8 (PreOf R mc ms Pc) (PostOf Qc mc ms free) (vx_Post XC mc ms free) := vx_callBack cw.1 hM hp.1
  obtain ⟨⟨-, -, -, -, -, -, hcode, hini, hy, hlen, hl⟩, hstt⟩ := cw
  obtain ⟨hx, hb, hml, ho, -⟩ := S
  intro T hT X
  rcases vx_callS X hx (bytes := bytes) (maxL := maxL) (ret := ret) ho hl hstt hini hcode hy hK hg (hsize.trans hml.symm) (argsL := As) (rest := rest) (fun sig h => hn.trans (hlen sig h)) hstack hW (by rw [hb]; exact hdg)
    (fun vm₁ hW₁ => ⟨hf.1, hf.2, hp.2 (T.setVm vm₁) hT hW₁⟩) with ⟨v, vm₁, ⟨U', l2, c2, s2⟩, hW₁, X', ⟨g', mk, t, L, e1, e2, hq, h1, hL, h2, h3⟩, st⟩ | ⟨q, vm₁, ⟨U', l2, c2, s2⟩, hW₁, X', ⟨g', mk, t, L, E, ce, e1, e2, hq, hce, hcv, hcl, h1, hL, h2, h3⟩, st⟩
  · dsimp only [Pt.U, Pt.locs, Pt.cells, Pt.slots] at X' e1 e2 h1 h2 h3 st
    subst h1; subst h2; subst h3
    exact Or.inl ⟨v, (T.setVm vm₁).calling g' mk As.toArray, t, U', L, hT, X', hL, e1, e2, hq, st⟩
  · dsimp only [Pt.U, Pt.locs, Pt.cells, Pt.slots] at X' e1 e2 h1 h2 h3 st hcl
    subst h1; subst h2; subst h3
    exact Or.inr ⟨q, (T.setVm vm₁).calling g' mk As.toArray, t, U', L, E, ce, hT, X', hL, e1, e2, hq, hce, hcv, vx_cls hW₁ hcl, st⟩
end Runs
section Rows
variable {p : Program} {l : Launch} {e : Env} {R : Room} {s : State} {m : MethodId} {args : Array Value} {below : List Frame} {meth : Method} {c : Code} {H : Heap} {locs : List Loc} {cells slots : Nat} {Q : State → Prop}
variable {mc ms : Nat} {free : Addr → Prop} {A0 A1 : Nat → Prop} {H0 : Heap} {a : Array Value} {pc : Nat} {ls : Array Slot} {st0 rest : List Value}
theorem vx_keep {st₀ t T' : State} {L : List Loc} (h0 : st₀.heap = H) (e1 : T'.heap = t.heap) (hS : va_S A0 H0 H locs) (hA : ∀ q, q < H.size → A1 q → A0 q) (hf : ∀ q, free q → A0 q) (hL : ∀ q ∈ L, free q.base) (hF : va_F A1 st₀ t) :
    H.size ≤ T'.heap.size ∧ (∀ q : Nat, q < H.size → ¬ A1 q → T'.heap[q]? = H[q]?) ∧ va_S A0 H0 T'.heap (locs ++ L) := by
  obtain ⟨hz, hk⟩ := hF
  rw [h0] at hz hk
  exact ⟨by rw [e1]; exact hz, fun q h1 h2 => by rw [e1]; exact hk q h1 h2,
    ⟨Nat.le_trans hS.1 (by rw [e1]; exact hz), fun q h1 h2 => by rw [e1, hk q (Nat.lt_of_lt_of_le h1 hS.1) (fun z => h2 (hA q (Nat.lt_of_lt_of_le h1 hS.1) z))]; exact hS.2.1 q h1 h2, fun q hq => by
      rcases List.mem_append.mp hq with h | h
      · exact hS.2.2 q h
      · exact hf _ (hL q h)⟩⟩
theorem vx_calli {S SX : Type} {post : Int32 → S → Prop} {px : SX → Prop} {B : S → State → Prop} {BX : String → SX → State → Prop} {AX : Nat → Prop} (hr : vx_Run p l e R s m args below meth c H locs cells slots mc ms (F0 m pc ls st0) rest (va_Qi post B A1 a) (vx_X px BX AX) free) (hS : va_S A0 H0 H locs) (hA : ∀ q, q < H.size → A1 q → A0 q) (hf : ∀ q, free q → A0 q) (hAX : ∀ q, q < H.size → AX q → A0 q)
    (kx : ∀ (E : String) (ce : Cell) (q9 : Addr) (u : SX) (t : State) (H1 : Heap) (locs1 : List Loc), t.heap = H1 → s.vm.Alike t.vm → px u → BX E u t → H.size ≤ H1.size → (∀ q : Nat, q < H.size → ¬ AX q → H1[q]? = H[q]?) → va_S A0 H0 H1 locs1 → H1[q9]? = some ce → ce.vm = .none → s.vm.findClass E = some ce.cls → vx_W p l e R s m args below meth c H1 locs1 (cells + mc) (slots + ms) Q (F0 m pc ls rest) q9)
    (kk : ∀ (r : Int32) (u : S) (t : State) (H1 : Heap) (locs1 : List Loc), t.heap = H1 → s.vm.Alike t.vm → post r u → B u t → H.size ≤ H1.size → (∀ q : Nat, q < H.size → ¬ A1 q → H1[q]? = H[q]?) → va_S A0 H0 H1 locs1 → W p l e R s m args below meth c H1 locs1 (cells + mc) (slots + ms) Q (F0 m (pc + 3) ls (.int r :: rest))) : W p l e R s m args below meth c H locs cells slots Q (F0 m pc ls st0) := by
  intro T hT X
  rcases hr T hT X with ⟨v, st₀, t, T', L, h0, X', hL, e1, e2, ⟨⟨r, u, hv, hp, hb⟩, hF⟩, st⟩ | ⟨q, st₀, t, T', L, E, ce, h0, X', hL, e1, e2, ⟨u, hp, hb, hF⟩, hce, hcv, hcl, st⟩
  · cases hv
    obtain ⟨k1, k2, k3⟩ := vx_keep h0 e1 hS hA hf hL hF
    obtain ⟨t2, a1, b1⟩ := kk r u t T'.heap (locs ++ L) e1.symm (by rw [← e2]; exact X'.warmed.alike) hp hb k1 k2 k3 T' rfl X'
    exact ⟨t2, st t2 a1, b1⟩
  · obtain ⟨k1, k2, k3⟩ := vx_keep h0 e1 hS hAX hf hL hF
    obtain ⟨t2, a1, b1⟩ := kx E ce q u t T'.heap (locs ++ L) e1.symm (by rw [← e2]; exact X'.warmed.alike) hp hb k1 k2 k3 (by rw [e1]; exact hce) hcv hcl T' rfl X'
    exact ⟨t2, st.trans a1, b1⟩
theorem vx_calll {S SX : Type} {post : Int64 → S → Prop} {px : SX → Prop} {B : S → State → Prop} {BX : String → SX → State → Prop} {AX : Nat → Prop} (hr : vx_Run p l e R s m args below meth c H locs cells slots mc ms (F0 m pc ls st0) rest (va_Ql post B A1 a) (vx_X px BX AX) free) (hS : va_S A0 H0 H locs) (hA : ∀ q, q < H.size → A1 q → A0 q) (hf : ∀ q, free q → A0 q) (hAX : ∀ q, q < H.size → AX q → A0 q)
    (kx : ∀ (E : String) (ce : Cell) (q9 : Addr) (u : SX) (t : State) (H1 : Heap) (locs1 : List Loc), t.heap = H1 → s.vm.Alike t.vm → px u → BX E u t → H.size ≤ H1.size → (∀ q : Nat, q < H.size → ¬ AX q → H1[q]? = H[q]?) → va_S A0 H0 H1 locs1 → H1[q9]? = some ce → ce.vm = .none → s.vm.findClass E = some ce.cls → vx_W p l e R s m args below meth c H1 locs1 (cells + mc) (slots + ms) Q (F0 m pc ls rest) q9)
    (kk : ∀ (r : Int64) (u : S) (t : State) (H1 : Heap) (locs1 : List Loc), t.heap = H1 → s.vm.Alike t.vm → post r u → B u t → H.size ≤ H1.size → (∀ q : Nat, q < H.size → ¬ A1 q → H1[q]? = H[q]?) → va_S A0 H0 H1 locs1 → W p l e R s m args below meth c H1 locs1 (cells + mc) (slots + ms) Q (F0 m (pc + 3) ls (.long r :: rest))) : W p l e R s m args below meth c H locs cells slots Q (F0 m pc ls st0) := by
  intro T hT X
  rcases hr T hT X with ⟨v, st₀, t, T', L, h0, X', hL, e1, e2, ⟨⟨r, u, hv, hp, hb⟩, hF⟩, st⟩ | ⟨q, st₀, t, T', L, E, ce, h0, X', hL, e1, e2, ⟨u, hp, hb, hF⟩, hce, hcv, hcl, st⟩
  · cases hv
    obtain ⟨k1, k2, k3⟩ := vx_keep h0 e1 hS hA hf hL hF
    obtain ⟨t2, a1, b1⟩ := kk r u t T'.heap (locs ++ L) e1.symm (by rw [← e2]; exact X'.warmed.alike) hp hb k1 k2 k3 T' rfl X'
    exact ⟨t2, st t2 a1, b1⟩
  · obtain ⟨k1, k2, k3⟩ := vx_keep h0 e1 hS hAX hf hL hF
    obtain ⟨t2, a1, b1⟩ := kx E ce q u t T'.heap (locs ++ L) e1.symm (by rw [← e2]; exact X'.warmed.alike) hp hb k1 k2 k3 (by rw [e1]; exact hce) hcv hcl T' rfl X'
    exact ⟨t2, st.trans a1, b1⟩
theorem vx_callf {S SX : Type} {post : UInt32 → S → Prop} {px : SX → Prop} {B : S → State → Prop} {BX : String → SX → State → Prop} {AX : Nat → Prop} (hr : vx_Run p l e R s m args below meth c H locs cells slots mc ms (F0 m pc ls st0) rest (va_Qf post B A1 a) (vx_X px BX AX) free) (hS : va_S A0 H0 H locs) (hA : ∀ q, q < H.size → A1 q → A0 q) (hf : ∀ q, free q → A0 q) (hAX : ∀ q, q < H.size → AX q → A0 q)
    (kx : ∀ (E : String) (ce : Cell) (q9 : Addr) (u : SX) (t : State) (H1 : Heap) (locs1 : List Loc), t.heap = H1 → s.vm.Alike t.vm → px u → BX E u t → H.size ≤ H1.size → (∀ q : Nat, q < H.size → ¬ AX q → H1[q]? = H[q]?) → va_S A0 H0 H1 locs1 → H1[q9]? = some ce → ce.vm = .none → s.vm.findClass E = some ce.cls → vx_W p l e R s m args below meth c H1 locs1 (cells + mc) (slots + ms) Q (F0 m pc ls rest) q9)
    (kk : ∀ (r : UInt32) (u : S) (t : State) (H1 : Heap) (locs1 : List Loc), t.heap = H1 → s.vm.Alike t.vm → post r u → B u t → H.size ≤ H1.size → (∀ q : Nat, q < H.size → ¬ A1 q → H1[q]? = H[q]?) → va_S A0 H0 H1 locs1 → W p l e R s m args below meth c H1 locs1 (cells + mc) (slots + ms) Q (F0 m (pc + 3) ls (.float r :: rest))) : W p l e R s m args below meth c H locs cells slots Q (F0 m pc ls st0) := by
  intro T hT X
  rcases hr T hT X with ⟨v, st₀, t, T', L, h0, X', hL, e1, e2, ⟨⟨r, u, hv, hp, hb⟩, hF⟩, st⟩ | ⟨q, st₀, t, T', L, E, ce, h0, X', hL, e1, e2, ⟨u, hp, hb, hF⟩, hce, hcv, hcl, st⟩
  · cases hv
    obtain ⟨k1, k2, k3⟩ := vx_keep h0 e1 hS hA hf hL hF
    obtain ⟨t2, a1, b1⟩ := kk r u t T'.heap (locs ++ L) e1.symm (by rw [← e2]; exact X'.warmed.alike) hp hb k1 k2 k3 T' rfl X'
    exact ⟨t2, st t2 a1, b1⟩
  · obtain ⟨k1, k2, k3⟩ := vx_keep h0 e1 hS hAX hf hL hF
    obtain ⟨t2, a1, b1⟩ := kx E ce q u t T'.heap (locs ++ L) e1.symm (by rw [← e2]; exact X'.warmed.alike) hp hb k1 k2 k3 (by rw [e1]; exact hce) hcv hcl T' rfl X'
    exact ⟨t2, st.trans a1, b1⟩
theorem vx_calld {S SX : Type} {post : UInt64 → S → Prop} {px : SX → Prop} {B : S → State → Prop} {BX : String → SX → State → Prop} {AX : Nat → Prop} (hr : vx_Run p l e R s m args below meth c H locs cells slots mc ms (F0 m pc ls st0) rest (va_Qd post B A1 a) (vx_X px BX AX) free) (hS : va_S A0 H0 H locs) (hA : ∀ q, q < H.size → A1 q → A0 q) (hf : ∀ q, free q → A0 q) (hAX : ∀ q, q < H.size → AX q → A0 q)
    (kx : ∀ (E : String) (ce : Cell) (q9 : Addr) (u : SX) (t : State) (H1 : Heap) (locs1 : List Loc), t.heap = H1 → s.vm.Alike t.vm → px u → BX E u t → H.size ≤ H1.size → (∀ q : Nat, q < H.size → ¬ AX q → H1[q]? = H[q]?) → va_S A0 H0 H1 locs1 → H1[q9]? = some ce → ce.vm = .none → s.vm.findClass E = some ce.cls → vx_W p l e R s m args below meth c H1 locs1 (cells + mc) (slots + ms) Q (F0 m pc ls rest) q9)
    (kk : ∀ (r : UInt64) (u : S) (t : State) (H1 : Heap) (locs1 : List Loc), t.heap = H1 → s.vm.Alike t.vm → post r u → B u t → H.size ≤ H1.size → (∀ q : Nat, q < H.size → ¬ A1 q → H1[q]? = H[q]?) → va_S A0 H0 H1 locs1 → W p l e R s m args below meth c H1 locs1 (cells + mc) (slots + ms) Q (F0 m (pc + 3) ls (.double r :: rest))) : W p l e R s m args below meth c H locs cells slots Q (F0 m pc ls st0) := by
  intro T hT X
  rcases hr T hT X with ⟨v, st₀, t, T', L, h0, X', hL, e1, e2, ⟨⟨r, u, hv, hp, hb⟩, hF⟩, st⟩ | ⟨q, st₀, t, T', L, E, ce, h0, X', hL, e1, e2, ⟨u, hp, hb, hF⟩, hce, hcv, hcl, st⟩
  · cases hv
    obtain ⟨k1, k2, k3⟩ := vx_keep h0 e1 hS hA hf hL hF
    obtain ⟨t2, a1, b1⟩ := kk r u t T'.heap (locs ++ L) e1.symm (by rw [← e2]; exact X'.warmed.alike) hp hb k1 k2 k3 T' rfl X'
    exact ⟨t2, st t2 a1, b1⟩
  · obtain ⟨k1, k2, k3⟩ := vx_keep h0 e1 hS hAX hf hL hF
    obtain ⟨t2, a1, b1⟩ := kx E ce q u t T'.heap (locs ++ L) e1.symm (by rw [← e2]; exact X'.warmed.alike) hp hb k1 k2 k3 (by rw [e1]; exact hce) hcv hcl T' rfl X'
    exact ⟨t2, st.trans a1, b1⟩
theorem vx_callv {S SX : Type} {post : S → Prop} {px : SX → Prop} {B : S → State → Prop} {BX : String → SX → State → Prop} {AX : Nat → Prop} (hr : vx_Run p l e R s m args below meth c H locs cells slots mc ms (F0 m pc ls st0) rest (va_Qv post B A1 a) (vx_X px BX AX) free) (hS : va_S A0 H0 H locs) (hA : ∀ q, q < H.size → A1 q → A0 q) (hf : ∀ q, free q → A0 q) (hAX : ∀ q, q < H.size → AX q → A0 q)
    (kx : ∀ (E : String) (ce : Cell) (q9 : Addr) (u : SX) (t : State) (H1 : Heap) (locs1 : List Loc), t.heap = H1 → s.vm.Alike t.vm → px u → BX E u t → H.size ≤ H1.size → (∀ q : Nat, q < H.size → ¬ AX q → H1[q]? = H[q]?) → va_S A0 H0 H1 locs1 → H1[q9]? = some ce → ce.vm = .none → s.vm.findClass E = some ce.cls → vx_W p l e R s m args below meth c H1 locs1 (cells + mc) (slots + ms) Q (F0 m pc ls rest) q9)
    (kk : ∀ (u : S) (t : State) (H1 : Heap) (locs1 : List Loc), t.heap = H1 → s.vm.Alike t.vm → post u → B u t → H.size ≤ H1.size → (∀ q : Nat, q < H.size → ¬ A1 q → H1[q]? = H[q]?) → va_S A0 H0 H1 locs1 → W p l e R s m args below meth c H1 locs1 (cells + mc) (slots + ms) Q (F0 m (pc + 3) ls (rest))) : W p l e R s m args below meth c H locs cells slots Q (F0 m pc ls st0) := by
  intro T hT X
  rcases hr T hT X with ⟨v, st₀, t, T', L, h0, X', hL, e1, e2, ⟨⟨u, hv, hp, hb⟩, hF⟩, st⟩ | ⟨q, st₀, t, T', L, E, ce, h0, X', hL, e1, e2, ⟨u, hp, hb, hF⟩, hce, hcv, hcl, st⟩
  · cases hv
    obtain ⟨k1, k2, k3⟩ := vx_keep h0 e1 hS hA hf hL hF
    obtain ⟨t2, a1, b1⟩ := kk u t T'.heap (locs ++ L) e1.symm (by rw [← e2]; exact X'.warmed.alike) hp hb k1 k2 k3 T' rfl X'
    exact ⟨t2, st t2 a1, b1⟩
  · obtain ⟨k1, k2, k3⟩ := vx_keep h0 e1 hS hAX hf hL hF
    obtain ⟨t2, a1, b1⟩ := kx E ce q u t T'.heap (locs ++ L) e1.symm (by rw [← e2]; exact X'.warmed.alike) hp hb k1 k2 k3 (by rw [e1]; exact hce) hcv hcl T' rfl X'
    exact ⟨t2, st.trans a1, b1⟩
/-- caught by the row x of this method's table; the rows ahead don't take it -/
theorem vx_catch {own name : String} {E : String} {ce : Cell} {q : Addr} (hown : s.vm.findClass own = some m.cls) (pre : List ExceptionTableEntry) (x : ExceptionTableEntry) (suf : List ExceptionTableEntry) (hsplit : c.exceptionTable.toList = pre ++ x :: suf)
    (hpass : ∀ z ∈ pre, covers z pc = false ∨ (z.catchType ≠ 0 ∧ ∃ nm : String, (Cond.classLink own z.catchType nm).before args s = true ∧ va_Nc E nm s)) (hx : covers x pc = true) (h0 : x.catchType ≠ 0)
    (hlink : (Cond.classLink own x.catchType name).before args s = true) (hcast : (Cond.castable E name).before args s = true) (hcell : H[q]? = some ce) (hv : ce.vm = .none) (hcl : s.vm.findClass E = some ce.cls)
    (kk : W p l e R s m args below meth c H locs cells slots Q (F0 m x.handlerPc ls [.ref q])) : vx_W p l e R s m args below meth c H locs cells slots Q (F0 m pc ls rest) q := by
  intro T hT X
  have hpl : e.platform.magicAccessors = ({} : Platform).magicAccessors := by rw [X.admits.platform]
  obtain ⟨c3, c4, hc3, hc4, hasg⟩ := Cond.castable_spec hcast
  cases Option.some.inj (hc3.symm.trans hcl)
  obtain ⟨c5, hc5, hcl5⟩ := Cond.classLink_spec hown hlink e.platform hpl
  cases Option.some.inj (hc4.symm.trans hc5)
  obtain ⟨vm', X', st⟩ := X.thenCaughtThrough q (g := F0 m pc ls rest) rfl (Steps.refl _) (by rw [hT]; exact hcell) (by rw [hv]; rfl) (by obtain ⟨k9, h9, -⟩ := Vm.findClass_spec hcl; exact ⟨k9, h9⟩) pre x suf hsplit
    (fun z hz => by
      rcases hpass z hz with h | ⟨hz0, nm, hl1, hn1⟩
      · exact Or.inl h
      · obtain ⟨c6, hc6, hcl6⟩ := Cond.classLink_spec hown hl1 e.platform hpl
        obtain ⟨a8, b8, h1, h2, h3⟩ := hn1
        cases Option.some.inj (h1.symm.trans hcl)
        cases Option.some.inj (h2.symm.trans hc6)
        exact Or.inr ⟨hz0, _, hcl6, h3⟩) hx (Or.inr ⟨h0, c4, hcl5, hasg⟩)
  obtain ⟨t, a1, b1⟩ := kk (T.setVm vm') hT X'
  exact ⟨t, st.trans a1, b1⟩
end Rows
section Ends
variable {p : Program} {l : Launch} {e : Env} {R : Room} {s : State} {m : MethodId} {args : Array Value} {below : List Frame} {meth : Method} {c : Code} {H : Heap} {locs : List Loc} {cells slots : Nat} {Q : State → Prop}
variable {mc ms : Nat} {free : Addr → Prop} {A0 A1 : Nat → Prop} {H0 : Heap} {a : Array Value} {ls : Array Slot} {st0 rest : List Value}
variable {Qc : Array Value → State → Outcome → State → Prop} {XC : String → State → State → Prop}
/-- what a body that may throw owes at its end -/
def vx_MQ (below : List Frame) (Qc : Array Value → State → Outcome → State → Prop) (XC : String → State → State → Prop) (a : Array Value) (s : State) (mc ms : Nat) (free : Addr → Prop) : State → Prop := fun t =>
  ∃ o, t.status = .running ∧ Ended t below o ∧ vx_Q Qc XC mc ms free a s o t
theorem vx_ret {g : JFrame} {mc ms : Nat} (k : W p l e R s m args below meth c H locs cells slots (MQ below Qc args s mc ms free) g) : W p l e R s m args below meth c H locs cells slots (vx_MQ below Qc XC args s mc ms free) g := by
  intro T hT X
  obtain ⟨t, a1, o, b1, b2, b3, b4⟩ := k T hT X
  exact ⟨t, a1, o, b1, b2, Or.inl ⟨b3, b4⟩⟩
/-- not caught here: it goes on to the caller -/
theorem vx_widen {g : JFrame} {q : Addr} {k n : Nat} (h1 : cells ≤ k) (h2 : slots ≤ n) (kk : vx_W p l e R s m args below meth c H locs k n Q g q) : vx_W p l e R s m args below meth c H locs cells slots Q g q := fun T hT X => kk T hT (stand_widen X h1 h2)
theorem vx_out {pc : Nat} {E : String} {ce : Cell} {q : Addr} {mc ms : Nat} (hout : ∀ x ∈ c.exceptionTable.toList, covers x pc = false) (hlocks : meth.locks = false) (hcell : H[q]? = some ce) (hv : ce.vm = .none) (hcl : s.vm.findClass E = some ce.cls)
    (hx : ∀ t : State, t.heap = H → s.vm.Alike t.vm → XC E s t) (hf : ∀ z ∈ locs, free z.base) (hc : cells ≤ mc) (hs : slots ≤ ms) :
    vx_W p l e R s m args below meth c H locs cells slots (vx_MQ below Qc XC args s mc ms free) (F0 m pc ls rest) q := by
  intro T hT X
  obtain ⟨st1, hrun, hend, hW, hsm⟩ := X.leaveThrown q (g := F0 m pc ls rest) rfl rfl rfl hout hlocks
  have hcell9 : (T.setFrames (.throwing q :: below)).heap[q]? = some ce := by
    show T.heap[q]? = some ce
    rw [hT]; exact hcell
  exact ⟨_, st1, .threw q, hrun, hend, Or.inr ⟨q, rfl, E, ce, locs, hx _ hT hW.alike, hcell9, hv, hcl, hW, hsm.mono hc hs, hf⟩⟩
theorem vx_frame {U : State} {k n : Nat} (h : s.sameButNew ({ U with vm := s.vm } : State) locs k n) : s.heap.size ≤ U.heap.size ∧ ∀ q : Nat, q < s.heap.size → (∀ z ∈ locs, z.base ≠ q) → U.heap[q]? = s.heap[q]? := by
  obtain ⟨-, h2, -, -, -, h6⟩ := h
  refine ⟨h2, fun q hq hz => ?_⟩
  obtain ⟨c9, e1, e2, e3, e4⟩ := h6 q _ (Array.getElem?_eq_getElem hq)
  have hs : c9.slots = (s.heap[q]).slots := Array.ext_getElem? fun i => e4 i fun hm => hz _ hm rfl
  have h9 : c9 = s.heap[q] := by
    rw [hs] at e2
    exact e2
  have e5 : U.heap[q]? = some c9 := e1
  rw [e5, h9, Array.getElem?_eq_getElem hq]
/-- the words of a throw but the four that speak of the heap -/
def vx_no (w : Cond) : Bool := decide (w ≠ .isRef (.static Bundle.tN "UNASSIGNED_STACK" Bundle.steD)) && decide (w ≠ .isRef (.static Bundle.tN "SUPPRESSED_SENTINEL" Bundle.listD)) && decide (w ≠ .laysStatic Bundle.tN "UNASSIGNED_STACK" Bundle.steD) && decide (w ≠ .laysStatic Bundle.tN "SUPPRESSED_SENTINEL" Bundle.listD)
def vx_at0 (own : String) (ic : Nat) (X : String) (names : List String) : List Cond := (Bundle.ownAtoms0 own ic X names).filter vx_no
def vx_atS (own : String) (ic : Nat) (X : String) (names : List String) : List Cond := (Bundle.ownAtoms own ic X names).filter vx_no
/-- a word that the tables alone decide, or a good one -/
def vx_ot (w : Cond) : Bool := w.onTables || goodWord w
theorem vx_ot_at {args a' : Array Value} {s U : State} {w : Cond} (hW : s.WarmedH U.vm) (hvm : s.vm = U.vm) (hg : vx_ot w = true) (h : w.before args s = true) : w.before a' U = true := by
  simp only [vx_ot, Bool.or_eq_true] at hg
  rcases hg with hg | hg
  · exact va_tabs hg hvm h
  · exact word_at hW (good_of_word hg) h
/-- a list's words: the good ones out of the method's own list, the others by premises of their own -/
theorem vx_hat {args : Array Value} {s : State} {L B : List Cond} (h1 : ∀ w ∈ L.filter goodWord, w.before args s = true) (h2 : ∀ w ∈ L.filter (fun w => !goodWord w), w ∈ B) (h3 : ∀ w ∈ B, w.before args s = true) : ∀ w ∈ L, w.before args s = true := by
  intro w hw
  by_cases g : goodWord w = true
  · exact h1 w (List.mem_filter.mpr ⟨hw, g⟩)
  · refine h3 w (h2 w (List.mem_filter.mpr ⟨hw, ?_⟩))
    show (!goodWord w) = true
    cases hgw : goodWord w
    · rfl
    · exact absurd hgw g
theorem vx_c {args : Array Value} {s : State} {w : Cond} {B : List Cond} (h : w.before args s = true) (t : ∀ w ∈ B, w.before args s = true) : ∀ w' ∈ w :: B, w'.before args s = true := fun w' h' => (List.mem_cons.mp h').elim (fun e => by rw [e]; exact h) (t w')
theorem vx_n {args : Array Value} {s : State} : ∀ w ∈ ([] : List Cond), w.before args s = true := fun _ h => nomatch h
theorem vx_own {args : Array Value} {s : State} {L : List Cond} (h1 : ∀ w ∈ L.filter vx_no, w.before args s = true)
    (hU : (Cond.isRef (.static Bundle.tN "UNASSIGNED_STACK" Bundle.steD)).before args s = true) (hN : (Cond.isRef (.static Bundle.tN "SUPPRESSED_SENTINEL" Bundle.listD)).before args s = true)
    (lU : (Cond.laysStatic Bundle.tN "UNASSIGNED_STACK" Bundle.steD).before args s = true) (lN : (Cond.laysStatic Bundle.tN "SUPPRESSED_SENTINEL" Bundle.listD).before args s = true) : ∀ w ∈ L, w.before args s = true := by
  intro w hw
  by_cases e1 : w = .isRef (.static Bundle.tN "UNASSIGNED_STACK" Bundle.steD)
  · rw [e1]; exact hU
  · by_cases e2 : w = .isRef (.static Bundle.tN "SUPPRESSED_SENTINEL" Bundle.listD)
    · rw [e2]; exact hN
    · by_cases e3 : w = .laysStatic Bundle.tN "UNASSIGNED_STACK" Bundle.steD
      · rw [e3]; exact lU
      · by_cases e4 : w = .laysStatic Bundle.tN "SUPPRESSED_SENTINEL" Bundle.listD
        · rw [e4]; exact lN
        · exact h1 w (List.mem_filter.mpr ⟨hw, by unfold vx_no; rw [decide_eq_true e1, decide_eq_true e2, decide_eq_true e3, decide_eq_true e4]; rfl⟩)
/-- where a static field lies, its class's statics cell in H -/
def vx_L (C n d : String) (A : Nat → Prop) (U : State) (H : Heap) : Prop := ∃ (c : ClassId) (k : Class) (i : Nat) (f : Field) (a : Nat) (cell : Cell), U.vm.findClass C = some c ∧ U.fieldFound? C n d = some (c, k, i, f) ∧ f.isStatic = true ∧ k.statics = some a ∧ H[a]? = some cell ∧ cell.vm.isStatics = true ∧ cell.cls = c ∧ f.slot < cell.slots.size ∧ k.staticTypes[f.slot]? = some f.type ∧ ¬ A a
theorem vx_L.moved {C n d : String} {A : Nat → Prop} {u U : State} {H : Heap} (hvm : u.vm.Alike U.vm) (h : vx_L C n d A u H) : vx_L C n d A U H := by
  obtain ⟨c, k, i, f, a, cell, h1, h2, h3, h4, h5, h6, h7, h8, h9, h10⟩ := h
  obtain ⟨k', hi', he⟩ := State.fieldFound?_setVm hvm h2
  exact ⟨c, k', i, f, a, cell, by rw [hvm.findClass]; exact h1, hi', h3, by rw [he]; exact h4, h5, h6, h7, h8, by rw [he]; exact h9, h10⟩
theorem vx_L.kept {C n d : String} {A : Nat → Prop} {U : State} {H H1 : Heap} (h : vx_L C n d A U H) (hq : ∀ a : Nat, a < H.size → ¬ A a → H1[a]? = H[a]?) : vx_L C n d A U H1 := by
  obtain ⟨c, k, i, f, a, cell, h1, h2, h3, h4, h5, h6, h7, h8, h9, h10⟩ := h
  exact ⟨c, k, i, f, a, cell, h1, h2, h3, h4, by rw [hq a (Array.getElem?_eq_some_iff.mp h5).1 h10]; exact h5, h6, h7, h8, h9, h10⟩
theorem vx_L.narrow {C n d : String} {A B : Nat → Prop} {U : State} {H : Heap} (h : vx_L C n d A U H) (hAB : ∀ q, B q → A q) : vx_L C n d B U H := by
  obtain ⟨c, k, i, f, a, cell, h1, h2, h3, h4, h5, h6, h7, h8, h9, h10⟩ := h
  exact ⟨c, k, i, f, a, cell, h1, h2, h3, h4, h5, h6, h7, h8, h9, fun z => h10 (hAB _ z)⟩
theorem vx_L.word {C n d : String} {A : Nat → Prop} {s : State} {args : Array Value} (h : vx_L C n d A s s.heap) : (Cond.laysStatic C n d).before args s = true := by
  obtain ⟨c, k, i, f, a, cell, h1, h2, h3, h4, h5, h6, h7, h8, h9, -⟩ := h
  show (Cond.laysStatic C n d).holds args s none s [] = true
  exact Cond.laysStatic_of h1 h2 h3 h4 h5 h6 h7 h8 h9
/-- .. and what it holds: null or some reference -/
def vx_Zq (C n d : String) (A : Nat → Prop) (U : State) (H : Heap) : Prop := va_Zq C n d A U H ∧ vx_L C n d A U H
theorem vx_Zq.moved {C n d : String} {A : Nat → Prop} {u U : State} {H : Heap} (hvm : u.vm.Alike U.vm) (h : vx_Zq C n d A u H) : vx_Zq C n d A U H := ⟨va_Zq.moved hvm h.1, vx_L.moved hvm h.2⟩
theorem vx_Zq.kept {C n d : String} {A : Nat → Prop} {U : State} {H H1 : Heap} (h : vx_Zq C n d A U H) (hq : ∀ a : Nat, a < H.size → ¬ A a → H1[a]? = H[a]?) : vx_Zq C n d A U H1 := ⟨va_Zq.kept h.1 hq, vx_L.kept h.2 hq⟩
theorem vx_Zq.narrow {C n d : String} {A B : Nat → Prop} {U : State} {H : Heap} (h : vx_Zq C n d A U H) (hAB : ∀ q, B q → A q) : vx_Zq C n d B U H := ⟨va_Zq.narrow h.1 hAB, vx_L.narrow h.2 hAB⟩
theorem vx_Zqof {args : Array Value} {s : State} {C n d : String} {A : Nat → Prop} (hl : (Cond.laysStatic C n d).before args s = true) (hini : (Cond.initialized C).before args s = true) (h : (Cond.isRef (.static C n d)).before args s = true) (hA : ∀ a : Nat, a < s.heap.size → ¬ A a) : vx_Zq C n d A s s.heap := by
  refine ⟨va_Zqof hl hini h hA, ?_⟩
  obtain ⟨c, k, i, f, a, cell, h1, h2, h3, h4, h5, h6, h7, h8, h9⟩ := Cond.laysStatic_spec hl
  exact ⟨c, k, i, f, a, cell, h1, h2, h3, h4, h5, h6, h7, h8, h9, hA a (Array.getElem?_eq_some_iff.mp h5).1⟩
theorem vx_isRef {C n d : String} {v : Value} {A : Nat → Prop} {s : State} {args : Array Value} (h : va_Z C n d v A s s.heap) (hv : v.isRef = true) : (Cond.isRef (.static C n d)).before args s = true := by
  obtain ⟨cf, kf, fi, f, a, cell, h1, h2, h3, h4, h5, h6, h7, -⟩ := h
  have he : (Term.static C n d).eval args s none [] s = some v := by
    simp [Term.eval, State.fieldNamed?, h1, h2, h4, h5, h6, h7]
  simp only [Cond.before, Cond.holds, Cond.value, he]
  cases v <;> simp_all [Value.isRef]
theorem vx_isRefq {C n d : String} {A : Nat → Prop} {s : State} {args : Array Value} (h : va_Zq C n d A s s.heap) : (Cond.isRef (.static C n d)).before args s = true := by
  rcases h with h | ⟨t, h⟩
  · exact vx_isRef h rfl
  · exact vx_isRef h rfl
/-- the same frame, seen from here: as if the method were called anew in this heap -/
theorem vx_rebase {T : State} (X : Stand p l e R s m args below meth c T locs cells slots) {R' : Room} (hf : R'.frames ≤ R.frames) (hl : R'.locals ≤ R.locals) (hc : cells + R'.cells ≤ R.cells) (hs : slots + R'.slots ≤ R.slots) :
    Stand p l e R' ((T.setVm s.vm).setFrames (.invoking m args :: below)) m args below meth c T [] 0 0 := by
  have htop : (T.setVm s.vm).topJava?.isSome := X.here.top
  have hF : ((T.setVm s.vm).setFrames (.invoking m args :: below)).frames = .invoking m args :: below := State.frames_setFrames _ (State.cur_lt_of_top htop)
  obtain ⟨g₀, hg0⟩ := Option.isSome_iff_exists.mp htop
  obtain ⟨r, hr⟩ := State.topJava?_eq_some.mp hg0
  have hl9 : e.platform.stackLimits (T.setVm s.vm).me = e.platform.stackLimits s.me := X.limits
  have hb9 : (T.setVm s.vm).me.stackBytes = s.me.stackBytes := X.bytes
  refine ⟨X.admits, X.cas, X.clock, hF, ?_, X.hears, X.method, X.code, X.here, X.tail, X.warmed, ?_, ?_, ?_⟩
  · have h := X.room
    have hU : ((T.setVm s.vm).setFrames (.invoking m args :: below)).localsInUse = s.localsInUse := by
      rw [State.localsInUse_invoking hF (meth := meth) (c := c) X.method X.code, State.localsInUse_invoking X.frames X.method X.code]
    simp only [State.hasRoom, Bool.and_eq_true, decide_eq_true_eq] at h ⊢
    obtain ⟨⟨⟨⟨h1, h2, h3, h4, h5, h6⟩, h7⟩, h8⟩, h9⟩ := h
    rw [X.frames, List.length_cons] at h2 h3
    have q1 := X.heapSize
    have q2 := X.used
    simp only [hF, hU, List.length_cons, State.stackLimits_setFrames, State.stackBytes_setFrames, hl9, hb9]
    refine ⟨⟨⟨⟨by omega, by omega, by omega, by omega, by omega, h6⟩, ?_⟩, ?_⟩, X.book⟩
    · show T.heap.size + R'.cells ≤ e.platform.maxCells
      omega
    · show T.slotsUsed + R'.slots ≤ e.platform.maxSlots
      omega
  · rw [State.stackLimits_setFrames]; rfl
  · rw [State.stackBytes_setFrames]; rfl
  · refine ⟨?_, Nat.le_refl _, Nat.le_refl _, ?_, ?_, fun a c9 h9 => ⟨c9, h9, rfl, rfl, fun _ _ => rfl⟩⟩
    · obtain ⟨t, ht, -⟩ := State.frames_cons hr
      show T.setVm s.vm = { ((T.setVm s.vm).setFrames (.invoking m args :: below)).setFrames (T.setVm s.vm).frames with heap := T.heap, slotsUsed := T.slotsUsed }
      rw [State.setFrames_setFrames, State.setFrames_self ht]
      rfl
    · show T.slotsUsed = T.slotsUsed + ((T.heap.toList.drop T.heap.size).map (·.slots.size)).sum
      rw [List.drop_eq_nil_of_le (Nat.le_of_eq Array.length_toList)]
      rfl
    · show ((T.heap.toList.drop T.heap.size).map (·.slots.size)).sum ≤ 0
      rw [List.drop_eq_nil_of_le (Nat.le_of_eq Array.length_toList)]
      exact Nat.le_refl _
/-- 'throw new E()': new; dup; invokespecial; athrow -/
theorem vx_throw0 {cc : ByteArray} {pc : Nat} (hexec : p.tables.exec = Jvm.exec) (hb : c.code = cc) (hl : l.stackTraces = false) {own cls : String} {names : List String} {ik ic mc ms : Nat} {A : Nat → Prop}
    (hown : s.vm.findClass own = some m.cls) (hcls : Bundle.fit cls = true) (hnames : ∀ n ∈ names, Bundle.fit n = true)
    (hk : (Cond.classLink own ik cls).before args s = true) (hini : (Cond.initialized cls).before args s = true) (hat : ∀ w ∈ vx_at0 own ic cls names, w.before args s = true)
    (hgood : ∀ w ∈ Cond.classLink own ik cls :: Cond.initialized cls :: vx_at0 own ic cls names, vx_ot w = true)
    (hU : vx_Zq Bundle.tN "UNASSIGNED_STACK" Bundle.steD A s s.heap) (hN : vx_Zq Bundle.tN "SUPPRESSED_SENTINEL" Bundle.listD A s s.heap) (hS : va_S A s.heap H locs) (hsize : ls.size = c.maxLocals)
    (d0 : decode cc pc = .ok (.new ik, 3)) (d3 : decode cc (pc + 3) = .ok (.dup, 1)) (d4 : decode cc (pc + 4) = .ok (.invokespecial ic, 3)) (d7 : decode cc (pc + 7) = .ok (.athrow, 1))
    (hout : ∀ x ∈ c.exceptionTable.toList, covers x (pc + 7) = false)
    (hRframes : names.length + 3 < R.frames) (hRlocals : (rest.map fun v => v.category).sum + (13 * (names.length + 1) + 42) ≤ R.locals) (hRcells : cells + 1 ≤ R.cells) (hRslots : slots + 6 ≤ R.slots) (hlocks : meth.locks = false)
    (hx : ∀ t : State, s.vm.Alike t.vm → H.size ≤ t.heap.size → (∀ q : Nat, q < H.size → t.heap[q]? = H[q]?) → XC cls s t)
    (hf : ∀ z ∈ locs, free z.base) (hc : cells + 1 ≤ mc) (hs : slots + 6 ≤ ms) :
    W p l e R s m args below meth c H locs cells slots (vx_MQ below Qc XC args s mc ms free) (F0 m pc ls rest) := by
  intro T hT X
  have htr : e.platform.stackTraces = false := (show e.platform.stackTraces = l.stackTraces by rw [X.admits.platform]).trans hl
  have Y := vx_rebase X (R' := { frames := R.frames, locals := R.locals, cells := 1, slots := 6 }) (Nat.le_refl _) (Nat.le_refl _) hRcells hRslots
  obtain ⟨s', hA⟩ : ∃ z, z = (T.setVm s.vm).setFrames (.invoking m args :: below) := ⟨_, rfl⟩
  rw [← hA] at Y
  have hvm : s'.vm = s.vm := by rw [hA]; rfl
  have hhp : s'.heap = H := by rw [hA]; exact hT
  have hW0 : s.WarmedH s'.vm := by rw [hvm]; exact State.WarmedH.refl s
  have hat' : ∀ w ∈ vx_at0 own ic cls names, w.before args s' = true := fun w hw => vx_ot_at hW0 hvm.symm (hgood w (List.mem_cons_of_mem _ (List.mem_cons_of_mem _ hw))) (hat w hw)
  have hk' : (Cond.classLink own ik cls).before args s' = true := vx_ot_at hW0 hvm.symm (hgood _ List.mem_cons_self) hk
  have hini' : (Cond.initialized cls).before args s' = true := vx_ot_at hW0 hvm.symm (hgood _ (List.mem_cons_of_mem _ List.mem_cons_self)) hini
  have hU' : vx_Zq Bundle.tN "UNASSIGNED_STACK" Bundle.steD A s' s'.heap := by rw [hhp]; exact vx_Zq.moved hW0.alike (hU.kept hS.2.1)
  have hN' : vx_Zq Bundle.tN "SUPPRESSED_SENTINEL" Bundle.listD A s' s'.heap := by rw [hhp]; exact vx_Zq.moved hW0.alike (hN.kept hS.2.1)
  have h : ∀ w ∈ Bundle.ownAtoms0 own ic cls names, w.before args s' = true := vx_own hat' (vx_isRefq hU'.1) (vx_isRefq hN'.1) hU'.2.word hN'.2.word
  have hown' : s'.vm.findClass own = some m.cls := by rw [hvm]; exact hown
  have hins : (Cond.instantiable cls 6).before args s' = true := h _ (by simp [Bundle.ownAtoms0])
  obtain ⟨vm₁, cX, kX, hfX, hkX, -, -, X₁, st1⟩ := Y.newCold hexec (own := own) (C := cls) (index := ik) (n := 6) hown' hk' hins hini'
    (g := F0 m pc ls rest) rfl (by rw [hb]; exact d0) (Nat.le_refl _) (Nat.le_refl _)
  generalize hT1 : (T.setVm vm₁).pushCell { cls := cX, slots := kX.instanceTypes.map defaultValue, vm := .none } = T1 at X₁ st1
  have hcat : (Value.ref T.heap.size).category = 1 := rfl
  have hcellA : T1.heap[T.heap.size]? = some (freshCell cX kX) := by rw [← hT1]; exact State.heap_pushCell_size _ _
  have d3' : decode c.code (pc + 3) = .ok (.dup, 1) := by rw [hb]; exact d3
  obtain ⟨U, hsteps, hrun, hend, hW, hsame, ce, hce, hO⟩ := X₁.ctorThrow0 hexec htr (own := own) (cls := cls) (names := names) (ic := ic) hown' hcls hnames h (fun x hx => nomatch hx) hfX hkX hcellA (by rw [hhp, hT]; exact Nat.le_refl _)
    (g := { method := m, pc := pc + 4, locals := ls, stack := .ref T.heap.size :: .ref T.heap.size :: rest, locked := none }) rfl hsize rfl rfl (rest := rest) rfl
    (by rw [hb]; exact d4) (by rw [hb]; exact d7) hout hRframes (by simp only [List.map_cons, List.sum_cons, hcat]; omega) hlocks
  obtain ⟨f1, f2⟩ := vx_frame hsame
  rw [hhp] at f1 f2
  have hWs : s.WarmedH U.vm := State.WarmedH.trans hW0 hW
  have hcl : s.vm.findClass cls = some ce.cls := by
    have h9 := hO.cls
    rw [hvm] at h9
    exact h9
  have hall : s.sameButNew ({ U with vm := s.vm } : State) locs mc ms := by
    subst hA
    obtain ⟨e1, e2⟩ := hsame
    rw [State.setFrames_setFrames] at e1
    have h2 : (T.setVm s.vm).sameButNew ({ U with vm := s.vm } : State) [] (0 + 1) (0 + 6) := ⟨e1, e2⟩
    have h3 := X.same.trans h2
    rw [List.append_nil] at h3
    exact h3.mono hc hs
  refine ⟨U, ?_, .threw T.heap.size, hrun, hend, Or.inr ⟨T.heap.size, rfl, cls, ce, locs, hx U hWs.alike f1 (fun q hq => f2 q hq (fun z hz => nomatch hz)), hce, hO.vm, hcl, hWs, hall, hf⟩⟩
  refine st1 _ ?_
  show Steps p.tables e below (T1.setTop { method := m, pc := pc + 3, locals := ls, stack := .ref T.heap.size :: rest, locked := none }) _
  jvm_step X₁.here [X₁.here.top, hexec, d3', Value.category]
  exact hsteps
/-- 'throw new E("text")': new; dup; ldc; invokespecial; athrow -/
theorem vx_throwS {cc : ByteArray} {pc : Nat} (hexec : p.tables.exec = Jvm.exec) (hb : c.code = cc) (hl : l.stackTraces = false) {own cls text : String} {names : List String} {ik is ic mc ms sa : Nat} {A : Nat → Prop}
    (hown : s.vm.findClass own = some m.cls) (hcls : Bundle.fit cls = true) (hnames : ∀ n ∈ names, Bundle.fit n = true)
    (hk : (Cond.classLink own ik cls).before args s = true) (hini : (Cond.initialized cls).before args s = true) (hstr : vk_R own is text sa s) (hat : ∀ w ∈ vx_atS own ic cls names, w.before args s = true)
    (hgood : ∀ w ∈ Cond.classLink own ik cls :: Cond.initialized cls :: vx_atS own ic cls names, vx_ot w = true)
    (hU : vx_Zq Bundle.tN "UNASSIGNED_STACK" Bundle.steD A s s.heap) (hN : vx_Zq Bundle.tN "SUPPRESSED_SENTINEL" Bundle.listD A s s.heap) (hS : va_S A s.heap H locs) (hsize : ls.size = c.maxLocals)
    (d0 : decode cc pc = .ok (.new ik, 3)) (d3 : decode cc (pc + 3) = .ok (.dup, 1)) (d4 : decode cc (pc + 4) = .ok (.ldc is, 2)) (d6 : decode cc (pc + 6) = .ok (.invokespecial ic, 3)) (d9 : decode cc (pc + 9) = .ok (.athrow, 1))
    (hout : ∀ x ∈ c.exceptionTable.toList, covers x (pc + 9) = false)
    (hRframes : names.length + 3 < R.frames) (hRlocals : (rest.map fun v => v.category).sum + (13 * (names.length + 1) + 43) ≤ R.locals) (hRcells : cells + 1 ≤ R.cells) (hRslots : slots + 6 ≤ R.slots) (hlocks : meth.locks = false)
    (hx : ∀ t : State, s.vm.Alike t.vm → H.size ≤ t.heap.size → (∀ q : Nat, q < H.size → t.heap[q]? = H[q]?) → XC cls s t)
    (hf : ∀ z ∈ locs, free z.base) (hc : cells + 1 ≤ mc) (hs : slots + 6 ≤ ms) :
    W p l e R s m args below meth c H locs cells slots (vx_MQ below Qc XC args s mc ms free) (F0 m pc ls rest) := by
  intro T hT X
  have htr : e.platform.stackTraces = false := (show e.platform.stackTraces = l.stackTraces by rw [X.admits.platform]).trans hl
  have Y := vx_rebase X (R' := { frames := R.frames, locals := R.locals, cells := 1, slots := 6 }) (Nat.le_refl _) (Nat.le_refl _) hRcells hRslots
  obtain ⟨s', hA⟩ : ∃ z, z = (T.setVm s.vm).setFrames (.invoking m args :: below) := ⟨_, rfl⟩
  rw [← hA] at Y
  have hvm : s'.vm = s.vm := by rw [hA]; rfl
  have hhp : s'.heap = H := by rw [hA]; exact hT
  have hW0 : s.WarmedH s'.vm := by rw [hvm]; exact State.WarmedH.refl s
  have hat' : ∀ w ∈ vx_atS own ic cls names, w.before args s' = true := fun w hw => vx_ot_at hW0 hvm.symm (hgood w (List.mem_cons_of_mem _ (List.mem_cons_of_mem _ hw))) (hat w hw)
  have hk' : (Cond.classLink own ik cls).before args s' = true := vx_ot_at hW0 hvm.symm (hgood _ List.mem_cons_self) hk
  have hini' : (Cond.initialized cls).before args s' = true := vx_ot_at hW0 hvm.symm (hgood _ (List.mem_cons_of_mem _ List.mem_cons_self)) hini
  have hU' : vx_Zq Bundle.tN "UNASSIGNED_STACK" Bundle.steD A s' s'.heap := by rw [hhp]; exact vx_Zq.moved hW0.alike (hU.kept hS.2.1)
  have hN' : vx_Zq Bundle.tN "SUPPRESSED_SENTINEL" Bundle.listD A s' s'.heap := by rw [hhp]; exact vx_Zq.moved hW0.alike (hN.kept hS.2.1)
  have h : ∀ w ∈ Bundle.ownAtoms own ic cls names, w.before args s' = true := vx_own hat' (vx_isRefq hU'.1) (vx_isRefq hN'.1) hU'.2.word hN'.2.word
  have hown' : s'.vm.findClass own = some m.cls := by rw [hvm]; exact hown
  have hins : (Cond.instantiable cls 6).before args s' = true := h _ (by simp [Bundle.ownAtoms])
  obtain ⟨vm₁, cX, kX, hfX, hkX, -, -, X₁, st1⟩ := Y.newCold hexec (own := own) (C := cls) (index := ik) (n := 6) hown' hk' hins hini'
    (g := F0 m pc ls rest) rfl (by rw [hb]; exact d0) (Nat.le_refl _) (Nat.le_refl _)
  generalize hT1 : (T.setVm vm₁).pushCell { cls := cX, slots := kX.instanceTypes.map defaultValue, vm := .none } = T1 at X₁ st1
  have hcat : (Value.ref T.heap.size).category = 1 := rfl
  have hcellA : T1.heap[T.heap.size]? = some (freshCell cX kX) := by rw [← hT1]; exact State.heap_pushCell_size _ _
  have d3' : decode c.code (pc + 3) = .ok (.dup, 1) := by rw [hb]; exact d3
  have d4' : decode c.code (pc + 4) = .ok (.ldc is, 2) := by rw [hb]; exact d4
  have hstr' : vk_R own is text sa s' := vk_R.warm hW0 hstr
  obtain ⟨U, hsteps, hrun, hend, hW, hsame, ce, hce, hO⟩ := X₁.ctorThrowS hexec htr (own := own) (cls := cls) (names := names) (ic := ic) hown' hcls hnames h (fun x hx => nomatch hx) hfX hkX hcellA (by rw [hhp, hT]; exact Nat.le_refl _) (msg := .ref sa) rfl
    (g := { method := m, pc := pc + 6, locals := ls, stack := .ref sa :: .ref T.heap.size :: .ref T.heap.size :: rest, locked := none }) rfl hsize rfl rfl (rest := rest) rfl
    (by rw [hb]; exact d6) (by rw [hb]; exact d9) hout hRframes (by simp only [List.map_cons, List.sum_cons, hcat]; omega) hlocks
  obtain ⟨f1, f2⟩ := vx_frame hsame
  rw [hhp] at f1 f2
  have hWs : s.WarmedH U.vm := State.WarmedH.trans hW0 hW
  have hcl : s.vm.findClass cls = some ce.cls := by
    have h9 := hO.cls
    rw [hvm] at h9
    exact h9
  have hall : s.sameButNew ({ U with vm := s.vm } : State) locs mc ms := by
    subst hA
    obtain ⟨e1, e2⟩ := hsame
    rw [State.setFrames_setFrames] at e1
    have h2 : (T.setVm s.vm).sameButNew ({ U with vm := s.vm } : State) [] (0 + 1) (0 + 6) := ⟨e1, e2⟩
    have h3 := X.same.trans h2
    rw [List.append_nil] at h3
    exact h3.mono hc hs
  refine ⟨U, ?_, .threw T.heap.size, hrun, hend, Or.inr ⟨T.heap.size, rfl, cls, ce, locs, hx U hWs.alike f1 (fun q hq => f2 q hq (fun z hz => nomatch hz)), hce, hO.vm, hcl, hWs, hall, hf⟩⟩
  refine st1 _ ?_
  show Steps p.tables e below (T1.setTop { method := m, pc := pc + 3, locals := ls, stack := .ref T.heap.size :: rest, locked := none }) _
  jvm_step X₁.here [X₁.here.top, hexec, d3', Value.category]
  exact X₁.ldcString hexec (own := own) (text := text) (index := is) (a := sa) hown' hstr'.1 hstr'.2
    (g := { method := m, pc := pc + 4, locals := ls, stack := .ref T.heap.size :: .ref T.heap.size :: rest, locked := none }) rfl d4' _ hsteps
/-- 'throw new E("text")', the text by a wide index -/
theorem vx_throwSW {cc : ByteArray} {pc : Nat} (hexec : p.tables.exec = Jvm.exec) (hb : c.code = cc) (hl : l.stackTraces = false) {own cls text : String} {names : List String} {ik is ic mc ms sa : Nat} {A : Nat → Prop}
    (hown : s.vm.findClass own = some m.cls) (hcls : Bundle.fit cls = true) (hnames : ∀ n ∈ names, Bundle.fit n = true)
    (hk : (Cond.classLink own ik cls).before args s = true) (hini : (Cond.initialized cls).before args s = true) (hstr : vk_R own is text sa s) (hat : ∀ w ∈ vx_atS own ic cls names, w.before args s = true)
    (hgood : ∀ w ∈ Cond.classLink own ik cls :: Cond.initialized cls :: vx_atS own ic cls names, vx_ot w = true)
    (hU : vx_Zq Bundle.tN "UNASSIGNED_STACK" Bundle.steD A s s.heap) (hN : vx_Zq Bundle.tN "SUPPRESSED_SENTINEL" Bundle.listD A s s.heap) (hS : va_S A s.heap H locs) (hsize : ls.size = c.maxLocals)
    (d0 : decode cc pc = .ok (.new ik, 3)) (d3 : decode cc (pc + 3) = .ok (.dup, 1)) (d4 : decode cc (pc + 4) = .ok (.ldc_w is, 3)) (d7 : decode cc (pc + 7) = .ok (.invokespecial ic, 3)) (d10 : decode cc (pc + 10) = .ok (.athrow, 1))
    (hout : ∀ x ∈ c.exceptionTable.toList, covers x (pc + 10) = false)
    (hRframes : names.length + 3 < R.frames) (hRlocals : (rest.map fun v => v.category).sum + (13 * (names.length + 1) + 43) ≤ R.locals) (hRcells : cells + 1 ≤ R.cells) (hRslots : slots + 6 ≤ R.slots) (hlocks : meth.locks = false)
    (hx : ∀ t : State, s.vm.Alike t.vm → H.size ≤ t.heap.size → (∀ q : Nat, q < H.size → t.heap[q]? = H[q]?) → XC cls s t)
    (hf : ∀ z ∈ locs, free z.base) (hc : cells + 1 ≤ mc) (hs : slots + 6 ≤ ms) :
    W p l e R s m args below meth c H locs cells slots (vx_MQ below Qc XC args s mc ms free) (F0 m pc ls rest) := by
  intro T hT X
  have htr : e.platform.stackTraces = false := (show e.platform.stackTraces = l.stackTraces by rw [X.admits.platform]).trans hl
  have Y := vx_rebase X (R' := { frames := R.frames, locals := R.locals, cells := 1, slots := 6 }) (Nat.le_refl _) (Nat.le_refl _) hRcells hRslots
  obtain ⟨s', hA⟩ : ∃ z, z = (T.setVm s.vm).setFrames (.invoking m args :: below) := ⟨_, rfl⟩
  rw [← hA] at Y
  have hvm : s'.vm = s.vm := by rw [hA]; rfl
  have hhp : s'.heap = H := by rw [hA]; exact hT
  have hW0 : s.WarmedH s'.vm := by rw [hvm]; exact State.WarmedH.refl s
  have hat' : ∀ w ∈ vx_atS own ic cls names, w.before args s' = true := fun w hw => vx_ot_at hW0 hvm.symm (hgood w (List.mem_cons_of_mem _ (List.mem_cons_of_mem _ hw))) (hat w hw)
  have hk' : (Cond.classLink own ik cls).before args s' = true := vx_ot_at hW0 hvm.symm (hgood _ List.mem_cons_self) hk
  have hini' : (Cond.initialized cls).before args s' = true := vx_ot_at hW0 hvm.symm (hgood _ (List.mem_cons_of_mem _ List.mem_cons_self)) hini
  have hU' : vx_Zq Bundle.tN "UNASSIGNED_STACK" Bundle.steD A s' s'.heap := by rw [hhp]; exact vx_Zq.moved hW0.alike (hU.kept hS.2.1)
  have hN' : vx_Zq Bundle.tN "SUPPRESSED_SENTINEL" Bundle.listD A s' s'.heap := by rw [hhp]; exact vx_Zq.moved hW0.alike (hN.kept hS.2.1)
  have h : ∀ w ∈ Bundle.ownAtoms own ic cls names, w.before args s' = true := vx_own hat' (vx_isRefq hU'.1) (vx_isRefq hN'.1) hU'.2.word hN'.2.word
  have hown' : s'.vm.findClass own = some m.cls := by rw [hvm]; exact hown
  have hins : (Cond.instantiable cls 6).before args s' = true := h _ (by simp [Bundle.ownAtoms])
  obtain ⟨vm₁, cX, kX, hfX, hkX, -, -, X₁, st1⟩ := Y.newCold hexec (own := own) (C := cls) (index := ik) (n := 6) hown' hk' hins hini'
    (g := F0 m pc ls rest) rfl (by rw [hb]; exact d0) (Nat.le_refl _) (Nat.le_refl _)
  generalize hT1 : (T.setVm vm₁).pushCell { cls := cX, slots := kX.instanceTypes.map defaultValue, vm := .none } = T1 at X₁ st1
  have hcat : (Value.ref T.heap.size).category = 1 := rfl
  have hcellA : T1.heap[T.heap.size]? = some (freshCell cX kX) := by rw [← hT1]; exact State.heap_pushCell_size _ _
  have d3' : decode c.code (pc + 3) = .ok (.dup, 1) := by rw [hb]; exact d3
  have d4' : decode c.code (pc + 4) = .ok (.ldc_w is, 3) := by rw [hb]; exact d4
  have hstr' : vk_R own is text sa s' := vk_R.warm hW0 hstr
  obtain ⟨U, hsteps, hrun, hend, hW, hsame, ce, hce, hO⟩ := X₁.ctorThrowS hexec htr (own := own) (cls := cls) (names := names) (ic := ic) hown' hcls hnames h (fun x hx => nomatch hx) hfX hkX hcellA (by rw [hhp, hT]; exact Nat.le_refl _) (msg := .ref sa) rfl
    (g := { method := m, pc := pc + 7, locals := ls, stack := .ref sa :: .ref T.heap.size :: .ref T.heap.size :: rest, locked := none }) rfl hsize rfl rfl (rest := rest) rfl
    (by rw [hb]; exact d7) (by rw [hb]; exact d10) hout hRframes (by simp only [List.map_cons, List.sum_cons, hcat]; omega) hlocks
  obtain ⟨f1, f2⟩ := vx_frame hsame
  rw [hhp] at f1 f2
  have hWs : s.WarmedH U.vm := State.WarmedH.trans hW0 hW
  have hcl : s.vm.findClass cls = some ce.cls := by
    have h9 := hO.cls
    rw [hvm] at h9
    exact h9
  have hall : s.sameButNew ({ U with vm := s.vm } : State) locs mc ms := by
    subst hA
    obtain ⟨e1, e2⟩ := hsame
    rw [State.setFrames_setFrames] at e1
    have h2 : (T.setVm s.vm).sameButNew ({ U with vm := s.vm } : State) [] (0 + 1) (0 + 6) := ⟨e1, e2⟩
    have h3 := X.same.trans h2
    rw [List.append_nil] at h3
    exact h3.mono hc hs
  refine ⟨U, ?_, .threw T.heap.size, hrun, hend, Or.inr ⟨T.heap.size, rfl, cls, ce, locs, hx U hWs.alike f1 (fun q hq => f2 q hq (fun z hz => nomatch hz)), hce, hO.vm, hcl, hWs, hall, hf⟩⟩
  refine st1 _ ?_
  show Steps p.tables e below (T1.setTop { method := m, pc := pc + 3, locals := ls, stack := .ref T.heap.size :: rest, locked := none }) _
  jvm_step X₁.here [X₁.here.top, hexec, d3', Value.category]
  exact X₁.ldcStringW hexec (own := own) (text := text) (index := is) (a := sa) hown' hstr'.1 hstr'.2
    (g := { method := m, pc := pc + 4, locals := ls, stack := .ref T.heap.size :: .ref T.heap.size :: rest, locked := none }) rfl d4' _ hsteps
end Ends
section Bodies
variable {l : Launch}
theorem vx_ofW {y : MethodName} {ws ws' : List Cond} {rm : Room} {Pc : Array Value → State → Prop} {Qc : Array Value → State → Outcome → State → Prop} {XC : String → State → State → Prop} {mc ms : Nat} {free : Addr → Prop} {cc : ByteArray} {maxL : Nat} {ret : Option FieldType}
    (hy : plainName y.cls = true) (hw : ws = Cond.code y cc maxL ret :: ws')
    (body : ∀ p e s m args below meth c s₁, BodyLoose p l y (headSpec ws rm) cc maxL ret e s m args below meth c s₁ → c.maxLocals = maxL → (∀ x ∈ c.exceptionTable.toList, False) → Pc args s →
      W p l e (headSpec ws rm).room s m args below meth c s.heap [] 0 0 (vx_MQ below Qc XC args s mc ms free) (entryFrame m args maxL)) : vx_Met l y ws rm Pc Qc XC mc ms free := by
  refine MetFree.of_bodyS (code := cc) (maxLocals := maxL) (ret := ret) hy ?_ ?_
  · intro args s m h hn
    obtain ⟨meth, c, h1, h2, h3, h4, h5, h6, -, -⟩ := Cond.code_spec hn (atoms_spec (ws := ws) h _ (by rw [hw]; exact List.mem_cons_self))
    exact ⟨meth, c, h1, h2, h3, h4, h5, h6⟩
  · intro p e s m args below meth c s₁ B hml hP _
    have hh0 : s₁.heap = s.heap := by rw [B.state]; rfl
    have ht : ∀ x ∈ c.exceptionTable.toList, False := by
      obtain ⟨meth9, c9, h1, h2, -, -, -, -, h7, -⟩ := Cond.code_spec B.named (atoms_spec (ws := ws) B.pre _ (by rw [hw]; exact List.mem_cons_self))
      cases Option.some.inj (h1.symm.trans B.method)
      cases Option.some.inj (h2.symm.trans (Stand.of_body B).code)
      intro x hx
      rw [Array.isEmpty_iff.mp h7] at hx
      cases hx
    obtain ⟨t, a1, o, b1, b2, b3⟩ := body p e s m args below meth c s₁ B hml ht hP s₁ hh0 (Stand.of_body B)
    exact ⟨t, o, a1, b1, b2, b3⟩
/-- the table of a body with handlers -/
theorem vx_table {p : Program} {x y : MethodName} {S : Spec} {cc bytes : ByteArray} {maxL maxL' : Nat} {ret ret' : Option FieldType} {e : Env} {s s₁ : State} {m : MethodId} {args : Array Value} {below : List Frame} {meth : Method} {c : Code} {hh : List (Nat × Nat × Nat × Nat)}
    (B : BodyLoose p l y S cc maxL ret e s m args below meth c s₁) (h : (Cond.codeWith y bytes maxL' ret' hh).before args s = true) : c.exceptionTable.toList = tableOf hh := by
  obtain ⟨m9, meth9, c9, hn9, h1, h2, -, -, h6, -⟩ := Cond.codeWith_spec h
  cases Option.some.inj (hn9.symm.trans B.named)
  cases Option.some.inj (h1.symm.trans B.method)
  cases Option.some.inj (h2.symm.trans (Stand.of_body B).code)
  rw [← h6, table_eq]
end Bodies
end VXA
/-! ===== END ===== -/
/-! ===== BEGIN a static call of a method with an exception table ===== -/
section VXS
variable {p : Program} {l : Launch} {e : Env} {R : Room} {s : State} {m : MethodId} {args : Array Value} {below : List Frame} {meth : Method} {c : Code} {T : State} {H : Heap} {locs : List Loc} {cells slots : Nat}
abbrev vx_CSW (R : Room) (s : State) (args : Array Value) (own : String) (index : Nat) (y : MethodName) (bytes : ByteArray) (maxL : Nat) (ret : Option FieldType) (hh : List (Nat × Nat × Nat × Nat)) (ws : List Cond) (rm : Room) (mc ms n : Nat) : Prop :=
  (rm.cells = mc ∧ rm.slots = ms ∧ rm.frames + 1 ≤ R.frames ∧ 8 + (maxL + 11) + rm.locals ≤ R.locals ∧ (∀ w ∈ ws, ∀ (a' : Array Value) (U : State), s.WarmedH U.vm → w.before a' U = true) ∧ Cond.codeWith y bytes maxL ret hh ∈ ws) ∧
  (Cond.codeWith y bytes maxL ret hh).before args s = true ∧ (Cond.initialized y.cls).before args s = true ∧ (y.cls ≠ "java/lang/invoke/MethodHandle" ∧ y.cls ≠ "java/lang/invoke/VarHandle") ∧
  (∀ sig, parseMethodDescriptor y.desc = some sig → n = sig.parameters.length) ∧ (Cond.methodLink own index y).before args s = true ∧ (Cond.static y).before args s = true
theorem vx_cwSW {own : String} {index maxL mc ms : Nat} {y : MethodName} {bytes : ByteArray} {ret : Option FieldType} {hh : List (Nat × Nat × Nat × Nat)} {Ts ws ws' : List Cond} {rm : Room} (n : Nat) (ht : ∀ w ∈ Ts, w.before args s = true) (hT : GoodIn Ts (va_wsS own index y ws)) (hw : ws = Cond.codeWith y bytes maxL ret hh :: ws') (hrc : rm.cells = mc) (hrs : rm.slots = ms)
    (hd : y.cls ≠ "java/lang/invoke/MethodHandle" ∧ y.cls ≠ "java/lang/invoke/VarHandle" ∧ (parseMethodDescriptor y.desc).map (fun d => d.parameters.length) = some n) (hR : rm.frames + 1 ≤ R.frames ∧ 8 + (maxL + 11) + rm.locals ≤ R.locals) :
    vx_CSW R s args own index y bytes maxL ret hh ws rm mc ms n := by
  have ok : ∀ w ∈ va_wsS own index y ws, w.before args s = true := fun w h => ht w (hT w h).1
  have hG : GoodIn Ts ws := fun w h => hT w (by unfold va_wsS; exact List.mem_append_right _ h)
  have hc : Cond.codeWith y bytes maxL ret hh ∈ ws := by rw [hw]; exact List.mem_cons_self
  refine ⟨⟨hrc, hrs, hR.1, hR.2, pay_in ht hG, hc⟩, ht _ (hG _ hc).1, ok _ (by simp [va_wsS]), ⟨hd.1, hd.2.1⟩, fun sig h => ?_, ok _ (by simp [va_wsS]), ok _ (by simp [va_wsS])⟩
  have h2 := hd.2.2
  rw [h] at h2
  exact (Option.some.inj h2).symm
theorem vx_callSW (X : Stand p l e R s m args below meth c T locs cells slots) (hexec : p.tables.exec = Jvm.exec) {own : String} {index : Nat} {y : MethodName} {bytes : ByteArray} {maxL : Nat} {ret : Option FieldType} {hh : List (Nat × Nat × Nat × Nat)}
    (hown : s.vm.findClass own = some m.cls) (hlink : (Cond.methodLink own index y).before args s = true) (hstat : (Cond.static y).before args s = true) (hinit : (Cond.initialized y.cls).before args s = true)
    (hcode : (Cond.codeWith y bytes maxL ret hh).before args s = true) (hy : y.cls ≠ "java/lang/invoke/MethodHandle" ∧ y.cls ≠ "java/lang/invoke/VarHandle")
    {W9 : Nat} {Pre : Pt → Array Value → Prop} {Post : Pt → Array Value → Option Value → Pt → Prop} (hK : Back l R p e below s args y 3 W9 Pre Post)
    {g : JFrame} (hg : g.method = m) (hsize : g.locals.size = c.maxLocals) {argsL rest : List Value} (hlen : ∀ sig, parseMethodDescriptor y.desc = some sig → argsL.length = sig.parameters.length)
    (hstack : g.stack = argsL.reverse ++ rest) (hW : 2 * g.monitorRoom + (rest.map fun v => v.category).sum ≤ W9) (hdg : decode c.code g.pc = .ok (.invokestatic index, 3))
    (hpre : ∀ vm₁, s.WarmedH vm₁ → Pre ⟨T.setVm vm₁, locs, cells, slots⟩ argsL.toArray) :
    ∃ (v : Option Value) (vm₁ : Vm) (B : Pt), s.WarmedH vm₁ ∧ Stand p l e R s m args below meth c B.U B.locs B.cells B.slots ∧ Post ⟨T.setVm vm₁, locs, cells, slots⟩ argsL.toArray v B ∧
      ∀ target, Steps p.tables e below (B.U.setTop { g with pc := g.pc + 3, stack := v.toList ++ rest }) target → Steps p.tables e below (T.setTop g) target := by
  obtain ⟨mk, methM, cM, hnamed, hmethM, -, -, -, -, -, -, hsigM⟩ := Cond.codeWith_spec hcode
  have hstatic : methM.isStatic = true := Cond.static_spec hnamed hmethM hstat
  obtain ⟨kP, hkP, -⟩ := className_of_methodNamed hnamed
  have hinitP : kP.init = .initialized := Cond.initialized_spec (findClass_of_methodNamed hnamed) hkP hinit
  obtain ⟨vm₁, X₁, hstep₁⟩ := X.invokestatic hexec hown hlink hnamed hmethM hstatic hkP hinitP hy (g := g) hg (argsL := argsL) (rest := rest) (hlen _ hsigM) hstack hdg
  obtain ⟨v, B, X', hpost, hsteps⟩ := hK m meth c ⟨T.setVm vm₁, locs, cells, slots⟩ { g with stack := rest } (.invokestatic index) mk argsL.toArray X₁ hg hsize hdg hW (X₁.named hnamed) (hpre vm₁ X₁.warmed)
  exact ⟨v, vm₁, B, X₁.warmed, X', hpost, fun target h => hstep₁ _ fun acts => by rw [doInvoke_state]; exact hsteps.trans h⟩
theorem vx_runSW {y : MethodName} {bytes cc : ByteArray} {maxL nL mc ms n index : Nat} {ret : Option FieldType} {hh : List (Nat × Nat × Nat × Nat)} {ws : List Cond} {rm : Room} {Pc : Array Value → State → Prop} {Qc : Array Value → State → Outcome → State → Prop} {free : Addr → Prop} {Ts : List Cond} {own : String} {As rest : List Value} {g : JFrame}
    (S : CallFix p m c cc nL s args Ts own) (hM : Met l y ws rm Pc Qc mc ms free) (cw : vx_CSW R s args own index y bytes maxL ret hh ws rm mc ms n) (hp : PreS s H Pc As)
    (hg : g.method = m) (hn : As.length = n) (hsize : g.locals.size = nL) (hstack : g.stack = As.reverse ++ rest) (hW : 2 * g.monitorRoom + (rest.map fun v => v.category).sum ≤ 8) (hdg : decode cc g.pc = .ok (.invokestatic index, 3)) (hf : cells + mc ≤ R.cells ∧ slots + ms ≤ R.slots) :
    va_Run p l e R s m args below meth c H locs cells slots mc ms g rest (Qc As.toArray) (free) := by
  obtain ⟨⟨hrc, hrs, hfr, hlo, hws, hcw⟩, hcode, hini, hy, hlen, hl, hstt⟩ := cw
  have hK : Back l R p e below s args y 3 8 (PreOf R mc ms Pc) (PostOf Qc mc ms free) := va_backW (hh := hh) (bytes := bytes) (maxL := maxL) (ret := ret) hM hp.1 hrc hrs hfr hlo hws hcw (fun a' U hW => word_at hW (Or.inl (by first | rfl | simp [Cond.onTables, Cond.keeps, Cond.steady])) hini)
  obtain ⟨hx, hb, hml, ho, -⟩ := S
  intro T hT X
  obtain ⟨v, vm₁, ⟨U', l2, c2, s2⟩, hW₁, X', ⟨g', mk, t, L, e1, e2, hq, h1, hL, h2, h3⟩, st⟩ := vx_callSW X hx (hh := hh) (bytes := bytes) (maxL := maxL) (ret := ret) ho hl hstt hini hcode hy hK hg (hsize.trans hml.symm) (argsL := As) (rest := rest) (fun sig h => hn.trans (hlen sig h)) hstack hW (by rw [hb]; exact hdg)
    (fun vm₁ hW₁ => ⟨hf.1, hf.2, hp.2 (T.setVm vm₁) hT hW₁⟩)
  dsimp only [Pt.U, Pt.locs, Pt.cells, Pt.slots] at X' e1 e2 h1 h2 h3 st
  subst h1; subst h2; subst h3
  exact ⟨v, (T.setVm vm₁).calling g' mk As.toArray, t, U', L, hT, X', hL, e1, e2, hq, st⟩
/-- not caught here, past rows that name other classes: it goes on to the caller -/
theorem vx_outP {p : Program} {l : Launch} {e : Env} {R : Room} {s : State} {m : MethodId} {args : Array Value} {below : List Frame} {meth : Method} {c : Code} {H : Heap} {locs : List Loc} {cells slots : Nat} {free : Addr → Prop} {ls : Array Slot} {rest : List Value} {Qc : Array Value → State → Outcome → State → Prop} {XC : String → State → State → Prop}
    {pc : Nat} {own E : String} {ce : Cell} {q : Addr} {mc ms : Nat} (hown : s.vm.findClass own = some m.cls) (hlocks : meth.locks = false)
    (hpass : ∀ z ∈ c.exceptionTable.toList, covers z pc = false ∨ (z.catchType ≠ 0 ∧ ∃ nm : String, (Cond.classLink own z.catchType nm).before args s = true ∧ va_Nc E nm s)) (hcell : H[q]? = some ce) (hv : ce.vm = .none) (hcl : s.vm.findClass E = some ce.cls)
    (hx : ∀ t : State, t.heap = H → s.vm.Alike t.vm → XC E s t) (hf : ∀ z ∈ locs, free z.base) (hc : cells ≤ mc) (hs : slots ≤ ms) :
    vx_W p l e R s m args below meth c H locs cells slots (vx_MQ below Qc XC args s mc ms free) (F0 m pc ls rest) q := by
  intro T hT X
  have hpl : e.platform.magicAccessors = ({} : Platform).magicAccessors := by rw [X.admits.platform]
  obtain ⟨vm', hW', X', st⟩ := X.outThrough hlocks q (g := F0 m pc ls rest) rfl rfl rfl (cell := ce) (by rw [hT]; exact hcell) (by rw [hv]; rfl)
    (by obtain ⟨k9, h9, -⟩ := Vm.findClass_spec hcl; exact ⟨k9, h9⟩) (fun z hz => by
      rcases hpass z hz with h | ⟨hz0, nm, hl1, hn1⟩
      · exact Or.inl h
      · obtain ⟨c6, hc6, hcl6⟩ := Cond.classLink_spec hown hl1 e.platform hpl
        obtain ⟨a8, b8, h1, h2, h3⟩ := hn1
        cases Option.some.inj (h1.symm.trans hcl)
        cases Option.some.inj (h2.symm.trans hc6)
        exact Or.inr ⟨hz0, _, hcl6, h3⟩)
  obtain ⟨g₀, hfr⟩ := X'.frames_eq
  have hcell9 : ((T.setVm vm').setFrames (.throwing q :: below)).heap[q]? = some ce := by
    show T.heap[q]? = some ce
    rw [hT]; exact hcell
  have hend : Ended ((T.setVm vm').setFrames (.throwing q :: below)) below (.threw q) := State.frames_setFrames _ (State.cur_lt_of_frames hfr)
  refine ⟨(T.setVm vm').setFrames (.throwing q :: below), ?_, .threw q, X'.here.running, hend, Or.inr ⟨q, rfl, E, ce, locs, hx _ hT (X'.ends _).1.alike, hcell9, hv, hcl, (X'.ends _).1, (X'.ends _).2.mono hc hs, hf⟩⟩
  rw [X.pushThrowing_eq]
  exact st
/-- a thing of a world lies in the heap -/
theorem vx_lt {D : va_G} {cl : List vw_C} {ws : va_W} {H1 : Heap} (h : va_P D cl ws H1) {k : Nat} {q : Nat × va_E} (hk : ws[k]? = some q) : q.1 < H1.size := (h k q hk).lt
end VXS
/-! ===== END ===== -/
/-! ===== BEGIN methods with a table of their own: called by a name, returning or throwing ===== -/
section VXH
/-! vx_backW, vx_callVX, vx_callSX, vx_callVW, vx_runVW, vx_runVX, vx_runSX, vx_ofWH follow the same proofs as their sisters above (Free/Laws.lean, Shelf42/LK1.lean); vx_outP calls Shelf42/NT130.lean (outThrough). -/
section
variable {l : Launch} {R : Room} {p : Program} {e : Env} {below : List Frame} {s : State} {sargs : Array Value} {y : MethodName} {len W9 : Nat}
theorem vx_backW {ws : List Cond} {rm : Room} {Pc : Array Value → State → Prop} {Qc : Array Value → State → Outcome → State → Prop} {XC : String → State → State → Prop} {mc ms : Nat} {free : Addr → Prop} {bytes : ByteArray} {maxL : Nat} {ret : Option FieldType} {hh : List (Nat × Nat × Nat × Nat)}
    (hM : vx_Met l y ws rm Pc Qc XC mc ms free) (hblind : FrameBlind Pc) (hrc : rm.cells = mc) (hrs : rm.slots = ms)
    (hframes : rm.frames + 1 ≤ R.frames) (hlocals : W9 + (maxL + 11) + rm.locals ≤ R.locals)
    (hws : ∀ w ∈ ws, ∀ a' U, s.WarmedH U.vm → w.before a' U = true) (hcode : Cond.codeWith y bytes maxL ret hh ∈ ws) (hinit : ∀ a' U, s.WarmedH U.vm → (Cond.initialized y.cls).before a' U = true) :
    vx_Back l R p e below s sargs y len W9 (PreOf R mc ms Pc) (PostOf Qc mc ms free) (vx_Post XC mc ms free) := by
  intro m meth c A g ig mk a X hg hsize hdg hW hn hp
  have h1 : (headSpec ws rm).pre.before a A.U = true := atoms_intro fun w hw => hws w hw _ _ X.warmed
  have h2 : (Cond.codeWith y bytes maxL ret hh).before a A.U = true := hws _ hcode _ _ X.warmed
  have h3 : (Cond.initialized y.cls).before a A.U = true := hinit _ _ X.warmed
  have h4 : A.cells + (headSpec ws rm).room.cells ≤ R.cells := by rw [show (headSpec ws rm).room.cells = mc from hrc]; exact hp.1
  have h5 : A.slots + (headSpec ws rm).room.slots ≤ R.slots := by rw [show (headSpec ws rm).room.slots = ms from hrs]; exact hp.2.1
  have hPc : Pc a (A.U.calling g mk a) := hblind _ _ _ _ hp.2.2
  obtain ⟨U, Ls, c0, s0⟩ := A
  dsimp only [Pt.U, Pt.locs, Pt.cells, Pt.slots] at h1 h2 h3 h4 h5 X hn hPc ⊢
  obtain ⟨m9, methY, cY, hn9, hmY, hcY, -, hlY, -⟩ := Cond.codeWith_spec h2
  cases Option.some.inj (hn9.symm.trans hn)
  obtain ⟨kY, hkY, -⟩ := className_of_methodNamed hn
  have hinitY : kY.init = .initialized := Cond.initialized_spec (findClass_of_methodNamed hn) hkY h3
  have h : At U g.method c below := by rw [hg]; exact X.here
  have hlocals9 : W9 + (maxL + 11) + (headSpec ws rm).room.locals ≤ R.locals := hlocals
  have happ : (headSpec ws rm).appliesLoose y e.platform (U.calling g mk a) = true :=
    Spec.appliesLoose_calling (g := g) h hdg hn hkY hinitY
      (X.room_calling (g := g) (R' := (headSpec ws rm).room) hsize hmY hcY hframes (by rw [hlY]; omega) h4 h5) h1
  obtain ⟨mid, hmid⟩ := h.above
  have hfr : (U.setTop g).frames = (.java g :: mid) ++ below := by rw [State.frames_setTop' g h.top, hmid]; rfl
  obtain ⟨o, s₂, hsteps, -, hend, hq⟩ := Steps.callFree hM p X.admits X.cas X.clock (acts := []) hfr happ hPc trivial
  have hq' : vx_Q Qc XC mc ms free a (U.calling g mk a) o s₂ := hq
  rw [State.frames_setTop' g h.top] at hend
  obtain ⟨g₀, hg0⟩ := Option.isSome_iff_exists.mp h.top
  obtain ⟨r, hr⟩ := State.topJava?_eq_some.mp hg0
  have hr' : (({ U with heap := s₂.heap, slotsUsed := s₂.slotsUsed } : State).setVm s₂.vm).frames = .java g₀ :: r := hr
  rcases hq' with ⟨hqc, L, hfe, hL⟩ | ⟨q, rfl, E, ce, L, hx, hce, hcv, hcl, hW₂, hsm, hL⟩
  · obtain ⟨⟨v, rfl⟩, hW₂, e2, q2, q3, q4, q5, q6⟩ := id hfe
    have e3 : s₂ = ({ (U.calling g mk a).setFrames s₂.frames with heap := s₂.heap, slotsUsed := s₂.slotsUsed } : State).setVm s₂.vm := by
      have : s₂ = ({ s₂ with vm := (U.calling g mk a).vm } : State).setVm s₂.vm := rfl
      rw [e2] at this
      exact this
    obtain ⟨c₂, i₂, len₂, hc₂, hd₂, hf₂⟩ := hend
    have hW' : U.WarmedH s₂.vm := hW₂
    have hcc : c₂ = c := by
      have h1 : s₂.code? g.method = U.code? g.method := by
        rw [State.code?_eq, State.code?_eq, hW'.alike.method?]
      exact Option.some.inj (hc₂.symm.trans (h1.trans h.code))
    subst hcc
    have hlen : len₂ = len := by rw [hdg] at hd₂; cases hd₂; rfl
    subst hlen
    have hs₂ : s₂ = (({ U with heap := s₂.heap, slotsUsed := s₂.slotsUsed } : State).setVm s₂.vm).setTop { g with pc := g.pc + len₂, stack := v.toList ++ g.stack } := by
      refine e3.trans ?_
      rw [hf₂, State.calling_eq h.top, State.setFrames_setFrames, State.setTop_of_frames _ hr', hr]
      rfl
    have hsame : U.sameButNew ({ U with heap := s₂.heap, slotsUsed := s₂.slotsUsed } : State) L mc ms := by
      refine ⟨?_, q2, q3, q4, q5, q6⟩
      obtain ⟨t, ht, -⟩ := State.frames_cons hr
      show ({ U with heap := s₂.heap, slotsUsed := s₂.slotsUsed } : State) = { U.setFrames U.frames with heap := s₂.heap, slotsUsed := s₂.slotsUsed }
      rw [State.setFrames_self ht]
    subst hg
    refine Or.inl ⟨v, ⟨(({ U with heap := s₂.heap, slotsUsed := s₂.slotsUsed } : State).setVm s₂.vm), Ls ++ L, c0 + mc, s0 + ms⟩,
      ⟨X.admits, X.cas, X.clock, X.frames, X.room, X.hears, X.method, X.code, (X.here.setHeapUsed s₂.heap s₂.slotsUsed).setVm hW'.alike, X.tail, State.WarmedH.trans X.warmed hW', X.limits, X.bytes, X.same.trans (hsame.setVm s.vm)⟩,
      ⟨g, mk, s₂, L, rfl, rfl, hqc, rfl, hL, rfl, rfl⟩, ?_⟩
    show Steps p.tables e below _ ((({ U with heap := s₂.heap, slotsUsed := s₂.slotsUsed } : State).setVm s₂.vm).setTop { g with pc := g.pc + len₂, stack := v.toList ++ g.stack })
    rw [← hs₂]
    exact hsteps
  · obtain ⟨e2, q2, q3, q4, q5, q6⟩ := id hsm
    have e3 : s₂ = ({ (U.calling g mk a).setFrames s₂.frames with heap := s₂.heap, slotsUsed := s₂.slotsUsed } : State).setVm s₂.vm := by
      have : s₂ = ({ s₂ with vm := (U.calling g mk a).vm } : State).setVm s₂.vm := rfl
      rw [e2] at this
      exact this
    have hf₂ : s₂.frames = .throwing q :: .java g :: U.frames.tail := hend
    have hW' : U.WarmedH s₂.vm := hW₂
    have hs₂ : s₂ = ((({ U with heap := s₂.heap, slotsUsed := s₂.slotsUsed } : State).setVm s₂.vm).setTop g).pushFrame (.throwing q) := by
      refine e3.trans ?_
      rw [hf₂, State.calling_eq h.top, State.setFrames_setFrames, State.pushFrame, State.frames_setTop _ hr', State.setTop_of_frames _ hr', State.setFrames_setFrames, hr]
      rfl
    have hsame : U.sameButNew ({ U with heap := s₂.heap, slotsUsed := s₂.slotsUsed } : State) L mc ms := by
      refine ⟨?_, q2, q3, q4, q5, q6⟩
      obtain ⟨t, ht, -⟩ := State.frames_cons hr
      show ({ U with heap := s₂.heap, slotsUsed := s₂.slotsUsed } : State) = { U.setFrames U.frames with heap := s₂.heap, slotsUsed := s₂.slotsUsed }
      rw [State.setFrames_self ht]
    subst hg
    refine Or.inr ⟨q, ⟨(({ U with heap := s₂.heap, slotsUsed := s₂.slotsUsed } : State).setVm s₂.vm), Ls ++ L, c0 + mc, s0 + ms⟩,
      ⟨X.admits, X.cas, X.clock, X.frames, X.room, X.hears, X.method, X.code, (X.here.setHeapUsed s₂.heap s₂.slotsUsed).setVm hW'.alike, X.tail, State.WarmedH.trans X.warmed hW', X.limits, X.bytes, X.same.trans (hsame.setVm s.vm)⟩,
      ⟨g, mk, s₂, L, E, ce, rfl, rfl, hx, hce, hcv, hcl, rfl, hL, rfl, rfl⟩, ?_⟩
    show Steps p.tables e below _ (((({ U with heap := s₂.heap, slotsUsed := s₂.slotsUsed } : State).setVm s₂.vm).setTop g).pushFrame (.throwing q))
    rw [← hs₂]
    exact hsteps
end
variable {p : Program} {l : Launch} {e : Env} {R : Room} {s : State} {m : MethodId} {args : Array Value} {below : List Frame} {meth : Method} {c : Code} {T : State} {H : Heap} {locs : List Loc} {cells slots : Nat}
theorem vx_callVX (X : Stand p l e R s m args below meth c T locs cells slots) (hexec : p.tables.exec = Jvm.exec) {own C : String} {index : Nat} {y : MethodName} {bytes : ByteArray} {maxL : Nat} {ret : Option FieldType} {hh : List (Nat × Nat × Nat × Nat)}
    (hown : s.vm.findClass own = some m.cls) (hlink : (Cond.methodLink own index y).before args s = true) (hinst : (Cond.instanceMethod y).before args s = true) (hsel : (Cond.selects C y y).before args s = true)
    (hcode : (Cond.codeWith y bytes maxL ret hh).before args s = true) (hy : y.cls ≠ "java/lang/invoke/MethodHandle" ∧ y.cls ≠ "java/lang/invoke/VarHandle")
    {W9 : Nat} {Pre : Pt → Array Value → Prop} {Post : Pt → Array Value → Option Value → Pt → Prop} {PostX : Pt → Array Value → Addr → Pt → Prop} (hK : vx_Back l R p e below s args y 3 W9 Pre Post PostX)
    {b : Addr} {cellB : Cell} (hcell : T.heap[b]? = some cellB) (hobj : cellB.vm.isStatics = false) (hcls : s.vm.findClass C = some cellB.cls)
    {g : JFrame} (hg : g.method = m) (hsize : g.locals.size = c.maxLocals) {argsL rest : List Value} (hlen : ∀ sig, parseMethodDescriptor y.desc = some sig → argsL.length = sig.parameters.length)
    (hstack : g.stack = argsL.reverse ++ .ref b :: rest) (hW : 2 * g.monitorRoom + (rest.map fun v => v.category).sum ≤ W9) (hdg : decode c.code g.pc = .ok (.invokevirtual index, 3))
    (hpre : ∀ vm₁, s.WarmedH vm₁ → Pre ⟨T.setVm vm₁, locs, cells, slots⟩ (Value.ref b :: argsL).toArray) :
    (∃ (v : Option Value) (vm₁ : Vm) (B : Pt), s.WarmedH vm₁ ∧ Stand p l e R s m args below meth c B.U B.locs B.cells B.slots ∧ Post ⟨T.setVm vm₁, locs, cells, slots⟩ (Value.ref b :: argsL).toArray v B ∧
      ∀ target, Steps p.tables e below (B.U.setTop { g with pc := g.pc + 3, stack := v.toList ++ rest }) target → Steps p.tables e below (T.setTop g) target) ∨
    (∃ (q : Addr) (vm₁ : Vm) (B : Pt), s.WarmedH vm₁ ∧ Stand p l e R s m args below meth c B.U B.locs B.cells B.slots ∧ PostX ⟨T.setVm vm₁, locs, cells, slots⟩ (Value.ref b :: argsL).toArray q B ∧
      Steps p.tables e below (T.setTop g) ((B.U.setTop { g with stack := rest }).pushFrame (.throwing q))) := by
  obtain ⟨mk, methM, hnamed, hmethM, hstM, habM⟩ := Cond.instanceMethod_spec hinst
  obtain ⟨m8, methM', cM, hn8, hmethM', -, -, -, -, -, -, hsigM⟩ := Cond.codeWith_spec hcode
  cases Option.some.inj (hn8.symm.trans hnamed)
  cases hmethM.symm.trans hmethM'
  obtain ⟨c2, r2, m2, q1, q2, q3, q4, kP, hkP, hkPi⟩ := Cond.selects_spec hsel
  cases hcls.symm.trans q1
  cases (State.methodFound?_of_named hnamed hy).symm.trans q2
  cases hnamed.symm.trans q3
  have hselP : selectMethod e.platform s.vm cellB.cls mk = .method mk := by rw [Launch.admits_selectMethod X.admits]; exact q4
  obtain ⟨vm₁, X₁, hstep₁⟩ := X.invokevirtual hexec hown hlink hnamed hmethM hstM hkP hkPi hy (a := b) (cell := cellB) hcell
    (fun z h => by rw [h] at hobj; cases hobj) hselP hmethM habM hkP hkPi (g := g) hg (argsL := argsL) (rest := rest) (hlen _ hsigM) hstack hdg
  rcases hK m meth c ⟨T.setVm vm₁, locs, cells, slots⟩ { g with stack := rest } (.invokevirtual index) mk (Value.ref b :: argsL).toArray X₁ hg hsize hdg hW (X₁.named hnamed) (hpre vm₁ X₁.warmed) with ⟨v, B, X', hpost, hsteps⟩ | ⟨q, B, X', hpost, hsteps⟩
  · exact Or.inl ⟨v, vm₁, B, X₁.warmed, X', hpost, fun target h => hstep₁ _ fun acts => by rw [doInvoke_state]; exact hsteps.trans h⟩
  · exact Or.inr ⟨q, vm₁, B, X₁.warmed, X', hpost, hstep₁ _ fun acts => by rw [doInvoke_state]; exact hsteps⟩
theorem vx_callSX (X : Stand p l e R s m args below meth c T locs cells slots) (hexec : p.tables.exec = Jvm.exec) {own : String} {index : Nat} {y : MethodName} {bytes : ByteArray} {maxL : Nat} {ret : Option FieldType} {hh : List (Nat × Nat × Nat × Nat)}
    (hown : s.vm.findClass own = some m.cls) (hlink : (Cond.methodLink own index y).before args s = true) (hstat : (Cond.static y).before args s = true) (hinit : (Cond.initialized y.cls).before args s = true)
    (hcode : (Cond.codeWith y bytes maxL ret hh).before args s = true) (hy : y.cls ≠ "java/lang/invoke/MethodHandle" ∧ y.cls ≠ "java/lang/invoke/VarHandle")
    {W9 : Nat} {Pre : Pt → Array Value → Prop} {Post : Pt → Array Value → Option Value → Pt → Prop} {PostX : Pt → Array Value → Addr → Pt → Prop} (hK : vx_Back l R p e below s args y 3 W9 Pre Post PostX)
    {g : JFrame} (hg : g.method = m) (hsize : g.locals.size = c.maxLocals) {argsL rest : List Value} (hlen : ∀ sig, parseMethodDescriptor y.desc = some sig → argsL.length = sig.parameters.length)
    (hstack : g.stack = argsL.reverse ++ rest) (hW : 2 * g.monitorRoom + (rest.map fun v => v.category).sum ≤ W9) (hdg : decode c.code g.pc = .ok (.invokestatic index, 3))
    (hpre : ∀ vm₁, s.WarmedH vm₁ → Pre ⟨T.setVm vm₁, locs, cells, slots⟩ argsL.toArray) :
    (∃ (v : Option Value) (vm₁ : Vm) (B : Pt), s.WarmedH vm₁ ∧ Stand p l e R s m args below meth c B.U B.locs B.cells B.slots ∧ Post ⟨T.setVm vm₁, locs, cells, slots⟩ argsL.toArray v B ∧
      ∀ target, Steps p.tables e below (B.U.setTop { g with pc := g.pc + 3, stack := v.toList ++ rest }) target → Steps p.tables e below (T.setTop g) target) ∨
    (∃ (q : Addr) (vm₁ : Vm) (B : Pt), s.WarmedH vm₁ ∧ Stand p l e R s m args below meth c B.U B.locs B.cells B.slots ∧ PostX ⟨T.setVm vm₁, locs, cells, slots⟩ argsL.toArray q B ∧
      Steps p.tables e below (T.setTop g) ((B.U.setTop { g with stack := rest }).pushFrame (.throwing q))) := by
  obtain ⟨mk, methM, cM, hnamed, hmethM, -, -, -, -, -, -, hsigM⟩ := Cond.codeWith_spec hcode
  have hstatic : methM.isStatic = true := Cond.static_spec hnamed hmethM hstat
  obtain ⟨kP, hkP, -⟩ := className_of_methodNamed hnamed
  have hinitP : kP.init = .initialized := Cond.initialized_spec (findClass_of_methodNamed hnamed) hkP hinit
  obtain ⟨vm₁, X₁, hstep₁⟩ := X.invokestatic hexec hown hlink hnamed hmethM hstatic hkP hinitP hy (g := g) hg (argsL := argsL) (rest := rest) (hlen _ hsigM) hstack hdg
  rcases hK m meth c ⟨T.setVm vm₁, locs, cells, slots⟩ { g with stack := rest } (.invokestatic index) mk argsL.toArray X₁ hg hsize hdg hW (X₁.named hnamed) (hpre vm₁ X₁.warmed) with ⟨v, B, X', hpost, hsteps⟩ | ⟨q, B, X', hpost, hsteps⟩
  · exact Or.inl ⟨v, vm₁, B, X₁.warmed, X', hpost, fun target h => hstep₁ _ fun acts => by rw [doInvoke_state]; exact hsteps.trans h⟩
  · exact Or.inr ⟨q, vm₁, B, X₁.warmed, X', hpost, hstep₁ _ fun acts => by rw [doInvoke_state]; exact hsteps⟩
theorem vx_callVW (X : Stand p l e R s m args below meth c T locs cells slots) (hexec : p.tables.exec = Jvm.exec) {own C : String} {index : Nat} {y : MethodName} {bytes : ByteArray} {maxL : Nat} {ret : Option FieldType} {hh : List (Nat × Nat × Nat × Nat)}
    (hown : s.vm.findClass own = some m.cls) (hlink : (Cond.methodLink own index y).before args s = true) (hinst : (Cond.instanceMethod y).before args s = true) (hsel : (Cond.selects C y y).before args s = true)
    (hcode : (Cond.codeWith y bytes maxL ret hh).before args s = true) (hy : y.cls ≠ "java/lang/invoke/MethodHandle" ∧ y.cls ≠ "java/lang/invoke/VarHandle")
    {W9 : Nat} {Pre : Pt → Array Value → Prop} {Post : Pt → Array Value → Option Value → Pt → Prop} (hK : Back l R p e below s args y 3 W9 Pre Post)
    {b : Addr} {cellB : Cell} (hcell : T.heap[b]? = some cellB) (hobj : cellB.vm.isStatics = false) (hcls : s.vm.findClass C = some cellB.cls)
    {g : JFrame} (hg : g.method = m) (hsize : g.locals.size = c.maxLocals) {argsL rest : List Value} (hlen : ∀ sig, parseMethodDescriptor y.desc = some sig → argsL.length = sig.parameters.length)
    (hstack : g.stack = argsL.reverse ++ .ref b :: rest) (hW : 2 * g.monitorRoom + (rest.map fun v => v.category).sum ≤ W9) (hdg : decode c.code g.pc = .ok (.invokevirtual index, 3))
    (hpre : ∀ vm₁, s.WarmedH vm₁ → Pre ⟨T.setVm vm₁, locs, cells, slots⟩ (Value.ref b :: argsL).toArray) :
    ∃ (v : Option Value) (vm₁ : Vm) (B : Pt), s.WarmedH vm₁ ∧ Stand p l e R s m args below meth c B.U B.locs B.cells B.slots ∧ Post ⟨T.setVm vm₁, locs, cells, slots⟩ (Value.ref b :: argsL).toArray v B ∧
      ∀ target, Steps p.tables e below (B.U.setTop { g with pc := g.pc + 3, stack := v.toList ++ rest }) target → Steps p.tables e below (T.setTop g) target := by
  obtain ⟨mk, methM, hnamed, hmethM, hstM, habM⟩ := Cond.instanceMethod_spec hinst
  obtain ⟨m8, methM', cM, hn8, hmethM', -, -, -, -, -, -, hsigM⟩ := Cond.codeWith_spec hcode
  cases Option.some.inj (hn8.symm.trans hnamed)
  cases hmethM.symm.trans hmethM'
  obtain ⟨c2, r2, m2, q1, q2, q3, q4, kP, hkP, hkPi⟩ := Cond.selects_spec hsel
  cases hcls.symm.trans q1
  cases (State.methodFound?_of_named hnamed hy).symm.trans q2
  cases hnamed.symm.trans q3
  have hselP : selectMethod e.platform s.vm cellB.cls mk = .method mk := by rw [Launch.admits_selectMethod X.admits]; exact q4
  obtain ⟨vm₁, X₁, hstep₁⟩ := X.invokevirtual hexec hown hlink hnamed hmethM hstM hkP hkPi hy (a := b) (cell := cellB) hcell
    (fun z h => by rw [h] at hobj; cases hobj) hselP hmethM habM hkP hkPi (g := g) hg (argsL := argsL) (rest := rest) (hlen _ hsigM) hstack hdg
  obtain ⟨v, B, X', hpost, hsteps⟩ := hK m meth c ⟨T.setVm vm₁, locs, cells, slots⟩ { g with stack := rest } (.invokevirtual index) mk (Value.ref b :: argsL).toArray X₁ hg hsize hdg hW (X₁.named hnamed) (hpre vm₁ X₁.warmed)
  exact ⟨v, vm₁, B, X₁.warmed, X', hpost, fun target h => hstep₁ _ fun acts => by rw [doInvoke_state]; exact hsteps.trans h⟩
abbrev vx_CVW (R : Room) (s : State) (args : Array Value) (own C : String) (index : Nat) (y : MethodName) (bytes : ByteArray) (maxL : Nat) (ret : Option FieldType) (hh : List (Nat × Nat × Nat × Nat)) (ws : List Cond) (rm : Room) (mc ms n : Nat) : Prop :=
  (rm.cells = mc ∧ rm.slots = ms ∧ rm.frames + 1 ≤ R.frames ∧ 8 + (maxL + 11) + rm.locals ≤ R.locals ∧ (∀ w ∈ ws, ∀ (a' : Array Value) (U : State), s.WarmedH U.vm → w.before a' U = true) ∧ Cond.codeWith y bytes maxL ret hh ∈ ws) ∧
  (Cond.codeWith y bytes maxL ret hh).before args s = true ∧ (Cond.initialized y.cls).before args s = true ∧ (y.cls ≠ "java/lang/invoke/MethodHandle" ∧ y.cls ≠ "java/lang/invoke/VarHandle") ∧
  (∀ sig, parseMethodDescriptor y.desc = some sig → n = sig.parameters.length) ∧ (Cond.methodLink own index y).before args s = true ∧ (Cond.instanceMethod y).before args s = true ∧ (Cond.selects C y y).before args s = true
theorem vx_cwVW {own C : String} {index maxL mc ms : Nat} {y : MethodName} {bytes : ByteArray} {ret : Option FieldType} {hh : List (Nat × Nat × Nat × Nat)} {Ts ws ws' : List Cond} {rm : Room} (n : Nat) (ht : ∀ w ∈ Ts, w.before args s = true) (hT : GoodIn Ts (wsV own index C y ws)) (hw : ws = Cond.codeWith y bytes maxL ret hh :: ws') (hrc : rm.cells = mc) (hrs : rm.slots = ms)
    (hd : y.cls = C ∧ y.cls ≠ "java/lang/invoke/MethodHandle" ∧ y.cls ≠ "java/lang/invoke/VarHandle" ∧ (parseMethodDescriptor y.desc).map (fun d => d.parameters.length) = some n) (hR : rm.frames + 1 ≤ R.frames ∧ 8 + (maxL + 11) + rm.locals ≤ R.locals) :
    vx_CVW R s args own C index y bytes maxL ret hh ws rm mc ms n := by
  obtain ⟨hC, hd⟩ := hd
  subst hC
  have ok : ∀ w ∈ wsV own index y.cls y ws, w.before args s = true := fun w h => ht w (hT w h).1
  have hG : GoodIn Ts ws := fun w h => hT w (by unfold wsV; exact List.mem_append_right _ h)
  have hc : Cond.codeWith y bytes maxL ret hh ∈ ws := by rw [hw]; exact List.mem_cons_self
  refine ⟨⟨hrc, hrs, hR.1, hR.2, pay_in ht hG, hc⟩, ht _ (hG _ hc).1, ok _ (by simp [wsV]), ⟨hd.1, hd.2.1⟩, fun sig h => ?_, ok _ (by simp [wsV]), ok _ (by simp [wsV]), ok _ (by simp [wsV])⟩
  have h2 := hd.2.2
  rw [h] at h2
  exact (Option.some.inj h2).symm
theorem vx_runVW {y : MethodName} {bytes cc : ByteArray} {maxL nL mc ms n index : Nat} {ret : Option FieldType} {hh : List (Nat × Nat × Nat × Nat)} {ws : List Cond} {rm : Room} {Pc : Array Value → State → Prop} {Qc : Array Value → State → Outcome → State → Prop} {free : Addr → Prop} {Ts : List Cond} {own C : String} {b : Addr} {As rest : List Value} {g : JFrame}
    (S : CallFix p m c cc nL s args Ts own) (hM : Met l y ws rm Pc Qc mc ms free) (cw : vx_CVW R s args own C index y bytes maxL ret hh ws rm mc ms n) (hp : PreV s H C b Pc As)
    (hg : g.method = m) (hn : As.length = n) (hsize : g.locals.size = nL) (hstack : g.stack = As.reverse ++ .ref b :: rest) (hW : 2 * g.monitorRoom + (rest.map fun v => v.category).sum ≤ 8) (hdg : decode cc g.pc = .ok (.invokevirtual index, 3)) (hf : cells + mc ≤ R.cells ∧ slots + ms ≤ R.slots) :
    va_Run p l e R s m args below meth c H locs cells slots mc ms g rest (Qc (Value.ref b :: As).toArray) free := by
  obtain ⟨⟨hrc, hrs, hfr, hlo, hws, hcw⟩, hcode, hini, hy, hlen, hl, hin, hse⟩ := cw
  have hK : Back l R p e below s args y 3 8 (PreOf R mc ms Pc) (PostOf Qc mc ms free) := va_backW (hh := hh) (bytes := bytes) (maxL := maxL) (ret := ret) hM hp.1 hrc hrs hfr hlo hws hcw (fun a' U hW => word_at hW (Or.inl (by first | rfl | simp [Cond.onTables, Cond.keeps, Cond.steady])) hini)
  obtain ⟨hx, hb, hml, ho, -⟩ := S
  obtain ⟨-, ⟨cellB, hcB, hoB, hclB⟩, hPc⟩ := hp
  intro T hT X
  obtain ⟨v, vm₁, ⟨U', l2, c2, s2⟩, hW₁, X', ⟨g', mk, t, L, e1, e2, hq, h1, hL, h2, h3⟩, st⟩ := vx_callVW X hx (C := C) (hh := hh) (bytes := bytes) (maxL := maxL) (ret := ret) ho hl hin hse hcode hy hK (by rw [hT]; exact hcB) hoB hclB hg (hsize.trans hml.symm) (argsL := As) (rest := rest) (fun sig h => hn.trans (hlen sig h)) hstack hW (by rw [hb]; exact hdg)
    (fun vm₁ hW₁ => ⟨hf.1, hf.2, hPc (T.setVm vm₁) hT hW₁⟩)
  dsimp only [Pt.U, Pt.locs, Pt.cells, Pt.slots] at X' e1 e2 h1 h2 h3 st
  subst h1; subst h2; subst h3
  exact ⟨v, (T.setVm vm₁).calling g' mk (Value.ref b :: As).toArray, t, U', L, hT, X', hL, e1, e2, hq, st⟩
section
variable {y : MethodName} {bytes cc : ByteArray} {maxL nL mc ms n index : Nat} {ret : Option FieldType} {ws : List Cond} {rm : Room} {Pc : Array Value → State → Prop} {Qc : Array Value → State → Outcome → State → Prop} {XC : String → State → State → Prop} {free : Addr → Prop} {Ts : List Cond} {own C : String} {b : Addr} {As rest : List Value} {g : JFrame}
theorem vx_runVX {hh : List (Nat × Nat × Nat × Nat)} (S : CallFix p m c cc nL s args Ts own) (hM : vx_Met l y ws rm Pc Qc XC mc ms free) (cw : vx_CVW R s args own C index y bytes maxL ret hh ws rm mc ms n) (hp : PreV s H C b Pc As)
    (hg : g.method = m) (hn : As.length = n) (hsize : g.locals.size = nL) (hstack : g.stack = As.reverse ++ .ref b :: rest) (hW : 2 * g.monitorRoom + (rest.map fun v => v.category).sum ≤ 8) (hdg : decode cc g.pc = .ok (.invokevirtual index, 3)) (hf : cells + mc ≤ R.cells ∧ slots + ms ≤ R.slots) :
    vx_Run p l e R s m args below meth c H locs cells slots mc ms g rest (Qc (Value.ref b :: As).toArray) XC free := by
  obtain ⟨⟨hrc, hrs, hfr, hlo, hws, hcw⟩, hcode, hini, hy, hlen, hl, hin, hse⟩ := cw
  have hK : vx_Back l R p e below s args y 3 8 (PreOf R mc ms Pc) (PostOf Qc mc ms free) (vx_Post XC mc ms free) := vx_backW (hh := hh) (bytes := bytes) (maxL := maxL) (ret := ret) hM hp.1 hrc hrs hfr hlo hws hcw (fun a' U hW => word_at hW (Or.inl (by first | rfl | simp [Cond.onTables, Cond.keeps, Cond.steady])) hini)
  obtain ⟨hx, hb, hml, ho, -⟩ := S
  obtain ⟨-, ⟨cellB, hcB, hoB, hclB⟩, hPc⟩ := hp
  intro T hT X
  rcases vx_callVX X hx (C := C) (hh := hh) (bytes := bytes) (maxL := maxL) (ret := ret) ho hl hin hse hcode hy hK (by rw [hT]; exact hcB) hoB hclB hg (hsize.trans hml.symm) (argsL := As) (rest := rest) (fun sig h => hn.trans (hlen sig h)) hstack hW (by rw [hb]; exact hdg)
    (fun vm₁ hW₁ => ⟨hf.1, hf.2, hPc (T.setVm vm₁) hT hW₁⟩) with ⟨v, vm₁, ⟨U', l2, c2, s2⟩, hW₁, X', ⟨g', mk, t, L, e1, e2, hq, h1, hL, h2, h3⟩, st⟩ | ⟨q, vm₁, ⟨U', l2, c2, s2⟩, hW₁, X', ⟨g', mk, t, L, E, ce, e1, e2, hq, hce, hcv, hcl, h1, hL, h2, h3⟩, st⟩
  · dsimp only [Pt.U, Pt.locs, Pt.cells, Pt.slots] at X' e1 e2 h1 h2 h3 st
    subst h1; subst h2; subst h3
    exact Or.inl ⟨v, (T.setVm vm₁).calling g' mk (Value.ref b :: As).toArray, t, U', L, hT, X', hL, e1, e2, hq, st⟩
  · dsimp only [Pt.U, Pt.locs, Pt.cells, Pt.slots] at X' e1 e2 h1 h2 h3 st hcl
    subst h1; subst h2; subst h3
    exact Or.inr ⟨q, (T.setVm vm₁).calling g' mk (Value.ref b :: As).toArray, t, U', L, E, ce, hT, X', hL, e1, e2, hq, hce, hcv, vx_cls hW₁ hcl, st⟩
theorem vx_runSX {hh : List (Nat × Nat × Nat × Nat)} (S : CallFix p m c cc nL s args Ts own) (hM : vx_Met l y ws rm Pc Qc XC mc ms free) (cw : vx_CSW R s args own index y bytes maxL ret hh ws rm mc ms n) (hp : PreS s H Pc As)
    (hg : g.method = m) (hn : As.length = n) (hsize : g.locals.size = nL) (hstack : g.stack = As.reverse ++ rest) (hW : 2 * g.monitorRoom + (rest.map fun v => v.category).sum ≤ 8) (hdg : decode cc g.pc = .ok (.invokestatic index, 3)) (hf : cells + mc ≤ R.cells ∧ slots + ms ≤ R.slots) :
    vx_Run p l e R s m args below meth c H locs cells slots mc ms g rest (Qc As.toArray) XC free := by
  obtain ⟨⟨hrc, hrs, hfr, hlo, hws, hcw⟩, hcode, hini, hy, hlen, hl, hstt⟩ := cw
  have hK : vx_Back l R p e below s args y 3 8 (PreOf R mc ms Pc) (PostOf Qc mc ms free) (vx_Post XC mc ms free) := vx_backW (hh := hh) (bytes := bytes) (maxL := maxL) (ret := ret) hM hp.1 hrc hrs hfr hlo hws hcw (fun a' U hW => word_at hW (Or.inl (by first | rfl | simp [Cond.onTables, Cond.keeps, Cond.steady])) hini)
  obtain ⟨hx, hb, hml, ho, -⟩ := S
  intro T hT X
  rcases vx_callSX X hx (hh := hh) (bytes := bytes) (maxL := maxL) (ret := ret) ho hl hstt hini hcode hy hK hg (hsize.trans hml.symm) (argsL := As) (rest := rest) (fun sig h => hn.trans (hlen sig h)) hstack hW (by rw [hb]; exact hdg)
    (fun vm₁ hW₁ => ⟨hf.1, hf.2, hp.2 (T.setVm vm₁) hT hW₁⟩) with ⟨v, vm₁, ⟨U', l2, c2, s2⟩, hW₁, X', ⟨g', mk, t, L, e1, e2, hq, h1, hL, h2, h3⟩, st⟩ | ⟨q, vm₁, ⟨U', l2, c2, s2⟩, hW₁, X', ⟨g', mk, t, L, E, ce, e1, e2, hq, hce, hcv, hcl, h1, hL, h2, h3⟩, st⟩
  · dsimp only [Pt.U, Pt.locs, Pt.cells, Pt.slots] at X' e1 e2 h1 h2 h3 st
    subst h1; subst h2; subst h3
    exact Or.inl ⟨v, (T.setVm vm₁).calling g' mk As.toArray, t, U', L, hT, X', hL, e1, e2, hq, st⟩
  · dsimp only [Pt.U, Pt.locs, Pt.cells, Pt.slots] at X' e1 e2 h1 h2 h3 st hcl
    subst h1; subst h2; subst h3
    exact Or.inr ⟨q, (T.setVm vm₁).calling g' mk As.toArray, t, U', L, E, ce, hT, X', hL, e1, e2, hq, hce, hcv, vx_cls hW₁ hcl, st⟩
end
end VXH
theorem vx_ofWH {l : Launch} {y : MethodName} {ws ws' : List Cond} {rm : Room} {Pc : Array Value → State → Prop} {Qc : Array Value → State → Outcome → State → Prop} {XC : String → State → State → Prop} {mc ms : Nat} {free : Addr → Prop} {cc : ByteArray} {maxL : Nat} {ret : Option FieldType} {hh : List (Nat × Nat × Nat × Nat)}
    (hy : plainName y.cls = true) (hw : ws = Cond.codeWith y cc maxL ret hh :: ws')
    (body : ∀ p e s m args below meth c s₁, BodyLoose p l y (headSpec ws rm) cc maxL ret e s m args below meth c s₁ → c.maxLocals = maxL → Pc args s →
      W p l e (headSpec ws rm).room s m args below meth c s.heap [] 0 0 (vx_MQ below Qc XC args s mc ms free) (entryFrame m args maxL)) : vx_Met l y ws rm Pc Qc XC mc ms free := by
  refine MetFree.of_bodyS (code := cc) (maxLocals := maxL) (ret := ret) hy ?_ ?_
  · intro args s m h hn
    obtain ⟨m9, meth, c, hn9, h1, h2, h3, h4, -, h5, h6, -⟩ := Cond.codeWith_spec (atoms_spec (ws := ws) h _ (by rw [hw]; exact List.mem_cons_self))
    cases hn.symm.trans hn9
    exact ⟨meth, c, h1, h2, h3, h4, h5, h6⟩
  · intro p e s m args below meth c s₁ B hml hP _
    have hh0 : s₁.heap = s.heap := by rw [B.state]; rfl
    obtain ⟨t, a1, o, b1, b2, b3⟩ := body p e s m args below meth c s₁ B hml hP s₁ hh0 (Stand.of_body B)
    exact ⟨t, o, a1, b1, b2, b3⟩
/-! ===== END ===== -/
end
section
/-! ===== BEGIN printed: names, fields, word lists, decode rows ===== -/
def RX0 : String := "SledgeRace$Team"
def TX0 : u_T := fun k => match k with
  | 0 => ("SledgeRace$Team", "number", "I", false)
  | 1 => ("SledgeRace$Team", "length", "I", false)
  | 2 => ("SledgeRace$Team", "weight", "I", false)
  | 3 => ("SledgeRace$Team", "rollers", "I", false)
  | 4 => ("SledgeRace$Team", "pullers", "I", false)
  | 5 => ("SledgeRace$Team", "strength", "I", false)
  | 6 => ("SledgeRace$Team", "runners", "I", false)
  | 7 => ("SledgeRace$Team", "wholeRope", "I", false)
  | 8 => ("SledgeRace$Team", "effort", "I", false)
  | 9 => ("SledgeRace$Team", "gap", "I", false)
  | 10 => ("SledgeRace$Team", "front", "I", false)
  | 11 => ("SledgeRace$Team", "breath", "I", false)
  | 12 => ("SledgeRace$Team", "rope", "I", false)
  | 13 => ("SledgeRace$Team", "knotting", "I", false)
  | 14 => ("SledgeRace$Team", "breaks", "I", false)
  | 15 => ("SledgeRace$Team", "way", "I", false)
  | 16 => ("SledgeRace$Team", "endTick", "I", false)
  | 17 => ("SledgeRace$Team", "places", "[I", true)
  | 18 => ("SledgeRace$Team", "loads", "[I", true)
  | _ => ("SledgeRace$Team", "ticksToGo", "[I", true)
def tyX0 : Nat → FieldType := fun k => match k with
  | 0 => .int
  | 1 => .int
  | 2 => .int
  | 3 => .int
  | 4 => .int
  | 5 => .int
  | 6 => .int
  | 7 => .int
  | 8 => .int
  | 9 => .int
  | 10 => .int
  | 11 => .int
  | 12 => .int
  | 13 => .int
  | 14 => .int
  | 15 => .int
  | 16 => .int
  | 17 => .array .int
  | 18 => .array .int
  | _ => .array .int
abbrev wsX00 : List Cond := u_ws RX0 TX0 20
theorem nmX0 : ∀ a, a < 20 → ∀ b, b < 20 → a ≠ b → (TX0 a).2.1 ≠ (TX0 b).2.1 := by decide +kernel
theorem tyX0_ok : ∀ k, k < 20 → parseFieldDescriptor (TX0 k).2.2.1 = some (tyX0 k) := by decide +kernel
abbrev cX0_init : ByteArray := prog_2_method_1_code
def yX0_init : MethodName := ⟨RX0, "<init>", "(IIII)V"⟩
abbrev cX0_goToStart : ByteArray := prog_2_method_2_code
def yX0_goToStart : MethodName := ⟨RX0, "goToStart", "()V"⟩
abbrev cX0_copyFrom : ByteArray := prog_2_method_3_code
def yX0_copyFrom : MethodName := ⟨RX0, "copyFrom", "(LSledgeRace$Team;)V"⟩
abbrev cX0_copyRow : ByteArray := prog_2_method_4_code
def yX0_copyRow : MethodName := ⟨RX0, "copyRow", "([I[I)V"⟩
abbrev cX0_passTick : ByteArray := prog_2_method_5_code
def yX0_passTick : MethodName := ⟨RX0, "passTick", "(ILSledgeRace$Track;)V"⟩
abbrev cX0_pull : ByteArray := prog_2_method_6_code
def yX0_pull : MethodName := ⟨RX0, "pull", "()I"⟩
abbrev cX0_breakRope : ByteArray := prog_2_method_7_code
def yX0_breakRope : MethodName := ⟨RX0, "breakRope", "()V"⟩
abbrev cX0_drag : ByteArray := prog_2_method_8_code
def yX0_drag : MethodName := ⟨RX0, "drag", "(LSledgeRace$Track;)I"⟩
abbrev cX0_wayWith : ByteArray := prog_2_method_9_code
def yX0_wayWith : MethodName := ⟨RX0, "wayWith", "(II)I"⟩
abbrev cX0_moveOn : ByteArray := prog_2_method_10_code
def yX0_moveOn : MethodName := ⟨RX0, "moveOn", "()V"⟩
abbrev cX0_sendRunners : ByteArray := prog_2_method_11_code
def yX0_sendRunners : MethodName := ⟨RX0, "sendRunners", "()V"⟩
abbrev cX0_lastBehind : ByteArray := prog_2_method_12_code
def yX0_lastBehind : MethodName := ⟨RX0, "lastBehind", "()I"⟩
abbrev cX0_breathe : ByteArray := prog_2_method_13_code
def yX0_breathe : MethodName := ⟨RX0, "breathe", "(I)V"⟩
abbrev cX0_isAtEnd : ByteArray := prog_2_method_14_code
def yX0_isAtEnd : MethodName := ⟨RX0, "isAtEnd", "()Z"⟩
abbrev cX0_isAheadOf : ByteArray := prog_2_method_15_code
def yX0_isAheadOf : MethodName := ⟨RX0, "isAheadOf", "(LSledgeRace$Team;)Z"⟩
abbrev cX0_sideOf : ByteArray := prog_2_method_16_code
def yX0_sideOf : MethodName := ⟨RX0, "sideOf", "(I)I"⟩
abbrev cX0_rollersLying : ByteArray := prog_2_method_17_code
def yX0_rollersLying : MethodName := ⟨RX0, "rollersLying", "(I)I"⟩
abbrev cX0_fact : ByteArray := prog_2_method_18_code
def yX0_fact : MethodName := ⟨RX0, "fact", "(I)I"⟩
abbrev cX0_addTo : ByteArray := prog_2_method_19_code
def yX0_addTo : MethodName := ⟨RX0, "addTo", "(J)J"⟩
def RX1 : String := "SledgeRace$Track"
def TX1 : u_T := fun k => match k with
  | 0 => ("SledgeRace$Track", "starts", "[I", true)
  | 1 => ("SledgeRace$Track", "slopes", "[I", true)
  | 2 => ("SledgeRace$Track", "softnesses", "[I", true)
  | 3 => ("SledgeRace$Track", "stretches", "I", false)
  | _ => ("SledgeRace$Track", "length", "I", false)
def tyX1 : Nat → FieldType := fun k => match k with
  | 0 => .array .int
  | 1 => .array .int
  | 2 => .array .int
  | 3 => .int
  | _ => .int
abbrev wsX10 : List Cond := u_ws RX1 TX1 5
theorem nmX1 : ∀ a, a < 5 → ∀ b, b < 5 → a ≠ b → (TX1 a).2.1 ≠ (TX1 b).2.1 := by decide +kernel
theorem tyX1_ok : ∀ k, k < 5 → parseFieldDescriptor (TX1 k).2.2.1 = some (tyX1 k) := by decide +kernel
abbrev cX1_init : ByteArray := prog_3_method_1_code
def yX1_init : MethodName := ⟨RX1, "<init>", "()V"⟩
abbrev cX1_putStretch : ByteArray := prog_3_method_2_code
def yX1_putStretch : MethodName := ⟨RX1, "putStretch", "(III)Z"⟩
abbrev cX1_groundAt : ByteArray := prog_3_method_3_code
def yX1_groundAt : MethodName := ⟨RX1, "groundAt", "(IZ)I"⟩
def RX2 : String := "SledgeRace"
def TX2 : u_T := fun k => match k with
  | 0 => ("SledgeRace", "track", "LSledgeRace$Track;", true)
  | 1 => ("SledgeRace", "teams", "[LSledgeRace$Team;", true)
  | 2 => ("SledgeRace", "trial", "LSledgeRace$Team;", true)
  | 3 => ("SledgeRace", "rival", "LSledgeRace$Team;", true)
  | 4 => ("SledgeRace", "teamCount", "I", false)
  | _ => ("SledgeRace", "tick", "I", false)
def tyX2 : Nat → FieldType := fun k => match k with
  | 0 => .object "SledgeRace$Track"
  | 1 => .array (.object "SledgeRace$Team")
  | 2 => .object "SledgeRace$Team"
  | 3 => .object "SledgeRace$Team"
  | 4 => .int
  | _ => .int
abbrev wsX20 : List Cond := u_ws RX2 TX2 6
theorem nmX2 : ∀ a, a < 6 → ∀ b, b < 6 → a ≠ b → (TX2 a).2.1 ≠ (TX2 b).2.1 := by decide +kernel
theorem tyX2_ok : ∀ k, k < 6 → parseFieldDescriptor (TX2 k).2.2.1 = some (tyX2 k) := by decide +kernel
abbrev cX2_init : ByteArray := prog_1_method_1_code
def yX2_init : MethodName := ⟨RX2, "<init>", "()V"⟩
abbrev cX2_setLength : ByteArray := prog_1_method_2_code
def yX2_setLength : MethodName := ⟨RX2, "setLength", "(I)I"⟩
abbrev cX2_lay : ByteArray := prog_1_method_3_code
def yX2_lay : MethodName := ⟨RX2, "lay", "(III)I"⟩
abbrev cX2_ground : ByteArray := prog_1_method_4_code
def yX2_ground : MethodName := ⟨RX2, "ground", "(IZ)I"⟩
abbrev cX2_addTeam : ByteArray := prog_1_method_5_code
def yX2_addTeam : MethodName := ⟨RX2, "addTeam", "(III)I"⟩
abbrev cX2_setCrew : ByteArray := prog_1_method_6_code
def yX2_setCrew : MethodName := ⟨RX2, "setCrew", "(IIIII)I"⟩
abbrev cX2_order : ByteArray := prog_1_method_7_code
def yX2_order : MethodName := ⟨RX2, "order", "(III)I"⟩
abbrev cX2_run : ByteArray := prog_1_method_8_code
def yX2_run : MethodName := ⟨RX2, "run", "(I)I"⟩
abbrev cX2_restart : ByteArray := prog_1_method_9_code
def yX2_restart : MethodName := ⟨RX2, "restart", "()I"⟩
abbrev cX2_count : ByteArray := prog_1_method_10_code
def yX2_count : MethodName := ⟨RX2, "count", "(I)I"⟩
abbrev cX2_team : ByteArray := prog_1_method_11_code
def yX2_team : MethodName := ⟨RX2, "team", "(II)I"⟩
abbrev cX2_roller : ByteArray := prog_1_method_12_code
def yX2_roller : MethodName := ⟨RX2, "roller", "(II)I"⟩
abbrev cX2_next : ByteArray := prog_1_method_13_code
def yX2_next : MethodName := ⟨RX2, "next", "(II)I"⟩
abbrev cX2_ranked : ByteArray := prog_1_method_14_code
def yX2_ranked : MethodName := ⟨RX2, "ranked", "(I)I"⟩
abbrev cX2_foresee : ByteArray := prog_1_method_15_code
def yX2_foresee : MethodName := ⟨RX2, "foresee", "(III)I"⟩
abbrev cX2_advise : ByteArray := prog_1_method_16_code
def yX2_advise : MethodName := ⟨RX2, "advise", "(II)I"⟩
abbrev cX2_mean : ByteArray := prog_1_method_17_code
def yX2_mean : MethodName := ⟨RX2, "mean", "()D"⟩
abbrev cX2_digest : ByteArray := prog_1_method_18_code
def yX2_digest : MethodName := ⟨RX2, "digest", "()J"⟩
abbrev cX2_isOutside : ByteArray := prog_1_method_19_code
def yX2_isOutside : MethodName := ⟨RX2, "isOutside", "(III)Z"⟩
abbrev cX2_requireStart : ByteArray := prog_1_method_20_code
def yX2_requireStart : MethodName := ⟨RX2, "requireStart", "()V"⟩
abbrev cX2_teamNumbered : ByteArray := prog_1_method_21_code
def yX2_teamNumbered : MethodName := ⟨RX2, "teamNumbered", "(I)LSledgeRace$Team;"⟩
abbrev cX2_passTick : ByteArray := prog_1_method_22_code
def yX2_passTick : MethodName := ⟨RX2, "passTick", "()V"⟩
abbrev cX2_lookAhead : ByteArray := prog_1_method_23_code
def yX2_lookAhead : MethodName := ⟨RX2, "lookAhead", "(LSledgeRace$Team;LSledgeRace$Team;II)V"⟩
abbrev cX2_rankOfTrialAmongRivals : ByteArray := prog_1_method_24_code
def yX2_rankOfTrialAmongRivals : MethodName := ⟨RX2, "rankOfTrialAmongRivals", "(I)I"⟩
abbrev cX2_rankOf : ByteArray := prog_1_method_25_code
def yX2_rankOf : MethodName := ⟨RX2, "rankOf", "(LSledgeRace$Team;)I"⟩
abbrev cX2_teamAtRank : ByteArray := prog_1_method_26_code
def yX2_teamAtRank : MethodName := ⟨RX2, "teamAtRank", "(I)I"⟩
abbrev cX2_countOf : ByteArray := prog_1_method_27_code
def yX2_countOf : MethodName := ⟨RX2, "countOf", "(I)I"⟩
abbrev cX2_teamsAtEnd : ByteArray := prog_1_method_28_code
def yX2_teamsAtEnd : MethodName := ⟨RX2, "teamsAtEnd", "()I"⟩
abbrev cX2_ropesBroken : ByteArray := prog_1_method_29_code
def yX2_ropesBroken : MethodName := ⟨RX2, "ropesBroken", "()I"⟩
def RX3 : String := "SledgeRaceModel"
def TX3 : u_T := fun k => match k with
  | 0 => ("SledgeRaceModel", "thrown", "I", false)
  | 1 => ("SledgeRaceModel", "tick", "I", false)
  | 2 => ("SledgeRaceModel", "teams", "I", false)
  | 3 => ("SledgeRaceModel", "length", "I", false)
  | 4 => ("SledgeRaceModel", "broke", "I", false)
  | 5 => ("SledgeRaceModel", "stretches", "I", false)
  | 6 => ("SledgeRaceModel", "ground", "[I", true)
  | 7 => ("SledgeRaceModel", "table", "[I", true)
  | _ => ("SledgeRaceModel", "spare", "[I", true)
def tyX3 : Nat → FieldType := fun k => match k with
  | 0 => .int
  | 1 => .int
  | 2 => .int
  | 3 => .int
  | 4 => .int
  | 5 => .int
  | 6 => .array .int
  | 7 => .array .int
  | _ => .array .int
abbrev wsX30 : List Cond := u_ws RX3 TX3 9
theorem nmX3 : ∀ a, a < 9 → ∀ b, b < 9 → a ≠ b → (TX3 a).2.1 ≠ (TX3 b).2.1 := by decide +kernel
theorem tyX3_ok : ∀ k, k < 9 → parseFieldDescriptor (TX3 k).2.2.1 = some (tyX3 k) := by decide +kernel
abbrev cX3_init : ByteArray := prog_5_method_1_code
def yX3_init : MethodName := ⟨RX3, "<init>", "()V"⟩
abbrev cX3_thrown : ByteArray := prog_5_method_2_code
def yX3_thrown : MethodName := ⟨RX3, "thrown", "()I"⟩
abbrev cX3_fail : ByteArray := prog_5_method_3_code
def yX3_fail : MethodName := ⟨RX3, "fail", "(I)I"⟩
abbrev cX3_isIn : ByteArray := prog_5_method_4_code
def yX3_isIn : MethodName := ⟨RX3, "isIn", "(III)Z"⟩
abbrev cX3_isTeam : ByteArray := prog_5_method_5_code
def yX3_isTeam : MethodName := ⟨RX3, "isTeam", "(I)Z"⟩
abbrev cX3_get : ByteArray := prog_5_method_6_code
def yX3_get : MethodName := ⟨RX3, "get", "(II)I"⟩
abbrev cX3_set : ByteArray := prog_5_method_7_code
def yX3_set : MethodName := ⟨RX3, "set", "(III)V"⟩
abbrev cX3_setLength : ByteArray := prog_5_method_8_code
def yX3_setLength : MethodName := ⟨RX3, "setLength", "(I)I"⟩
abbrev cX3_stretchAt : ByteArray := prog_5_method_9_code
def yX3_stretchAt : MethodName := ⟨RX3, "stretchAt", "(I)I"⟩
abbrev cX3_lay : ByteArray := prog_5_method_10_code
def yX3_lay : MethodName := ⟨RX3, "lay", "(III)I"⟩
abbrev cX3_ground : ByteArray := prog_5_method_11_code
def yX3_ground : MethodName := ⟨RX3, "ground", "(IZ)I"⟩
abbrev cX3_begin : ByteArray := prog_5_method_12_code
def yX3_begin : MethodName := ⟨RX3, "begin", "(I)V"⟩
abbrev cX3_addTeam : ByteArray := prog_5_method_13_code
def yX3_addTeam : MethodName := ⟨RX3, "addTeam", "(III)I"⟩
abbrev cX3_setCrew : ByteArray := prog_5_method_14_code
def yX3_setCrew : MethodName := ⟨RX3, "setCrew", "(IIIII)I"⟩
abbrev cX3_order : ByteArray := prog_5_method_15_code
def yX3_order : MethodName := ⟨RX3, "order", "(III)I"⟩
abbrev cX3_isCarried : ByteArray := prog_5_method_16_code
def yX3_isCarried : MethodName := ⟨RX3, "isCarried", "(II)Z"⟩
abbrev cX3_where : ByteArray := prog_5_method_17_code
def yX3_where : MethodName := ⟨RX3, "where", "(II)I"⟩
abbrev cX3_many : ByteArray := prog_5_method_18_code
def yX3_many : MethodName := ⟨RX3, "many", "(II)I"⟩
abbrev cX3_pull : ByteArray := prog_5_method_19_code
def yX3_pull : MethodName := ⟨RX3, "pull", "(I)I"⟩
abbrev cX3_drag : ByteArray := prog_5_method_20_code
def yX3_drag : MethodName := ⟨RX3, "drag", "(I)I"⟩
abbrev cX3_way : ByteArray := prog_5_method_21_code
def yX3_way : MethodName := ⟨RX3, "way", "(I)I"⟩
abbrev cX3_roll : ByteArray := prog_5_method_22_code
def yX3_roll : MethodName := ⟨RX3, "roll", "(I)V"⟩
abbrev cX3_runner : ByteArray := prog_5_method_23_code
def yX3_runner : MethodName := ⟨RX3, "runner", "(II)V"⟩
abbrev cX3_breathe : ByteArray := prog_5_method_24_code
def yX3_breathe : MethodName := ⟨RX3, "breathe", "(II)V"⟩
abbrev cX3_tickOf : ByteArray := prog_5_method_25_code
def yX3_tickOf : MethodName := ⟨RX3, "tickOf", "(I)V"⟩
abbrev cX3_tickOn : ByteArray := prog_5_method_26_code
def yX3_tickOn : MethodName := ⟨RX3, "tickOn", "()V"⟩
abbrev cX3_ended : ByteArray := prog_5_method_27_code
def yX3_ended : MethodName := ⟨RX3, "ended", "()I"⟩
abbrev cX3_run : ByteArray := prog_5_method_28_code
def yX3_run : MethodName := ⟨RX3, "run", "(I)I"⟩
abbrev cX3_restart : ByteArray := prog_5_method_29_code
def yX3_restart : MethodName := ⟨RX3, "restart", "()I"⟩
abbrev cX3_counted : ByteArray := prog_5_method_30_code
def yX3_counted : MethodName := ⟨RX3, "counted", "(I)I"⟩
abbrev cX3_count : ByteArray := prog_5_method_31_code
def yX3_count : MethodName := ⟨RX3, "count", "(I)I"⟩
abbrev cX3_teamTold : ByteArray := prog_5_method_32_code
def yX3_teamTold : MethodName := ⟨RX3, "teamTold", "(II)I"⟩
abbrev cX3_team : ByteArray := prog_5_method_33_code
def yX3_team : MethodName := ⟨RX3, "team", "(II)I"⟩
abbrev cX3_roller : ByteArray := prog_5_method_34_code
def yX3_roller : MethodName := ⟨RX3, "roller", "(II)I"⟩
abbrev cX3_next : ByteArray := prog_5_method_35_code
def yX3_next : MethodName := ⟨RX3, "next", "(II)I"⟩
abbrev cX3_isAhead : ByteArray := prog_5_method_36_code
def yX3_isAhead : MethodName := ⟨RX3, "isAhead", "(II)Z"⟩
abbrev cX3_rankOf : ByteArray := prog_5_method_37_code
def yX3_rankOf : MethodName := ⟨RX3, "rankOf", "(I)I"⟩
abbrev cX3_teamAt : ByteArray := prog_5_method_38_code
def yX3_teamAt : MethodName := ⟨RX3, "teamAt", "(I)I"⟩
abbrev cX3_ranked : ByteArray := prog_5_method_39_code
def yX3_ranked : MethodName := ⟨RX3, "ranked", "(I)I"⟩
abbrev cX3_foresee : ByteArray := prog_5_method_40_code
def yX3_foresee : MethodName := ⟨RX3, "foresee", "(III)I"⟩
abbrev cX3_advise : ByteArray := prog_5_method_41_code
def yX3_advise : MethodName := ⟨RX3, "advise", "(II)I"⟩
abbrev cX3_mean : ByteArray := prog_5_method_42_code
def yX3_mean : MethodName := ⟨RX3, "mean", "()D"⟩
abbrev cX3_digest : ByteArray := prog_5_method_43_code
def yX3_digest : MethodName := ⟨RX3, "digest", "()J"⟩
def RJ9 : String := "java/lang/Math"
def TJ9 : u_T := fun k => match k with
  | _ => ("", "", "", false)
def tyJ9 : Nat → FieldType := fun k => match k with
  | _ => .int
abbrev wsJ90 : List Cond := u_ws RJ9 TJ9 0
theorem nmJ9 : ∀ a, a < 0 → ∀ b, b < 0 → a ≠ b → (TJ9 a).2.1 ≠ (TJ9 b).2.1 := by decide +kernel
theorem tyJ9_ok : ∀ k, k < 0 → parseFieldDescriptor (TJ9 k).2.2.1 = some (tyJ9 k) := by decide +kernel
abbrev cJ9_max_7cf53 : ByteArray := prog_10_method_65_code
def yJ9_max_7cf53 : MethodName := ⟨RJ9, "max", "(II)I"⟩
abbrev cJ9_min_7cf53 : ByteArray := prog_10_method_69_code
def yJ9_min_7cf53 : MethodName := ⟨RJ9, "min", "(II)I"⟩
def RJ0 : String := "java/lang/String"
def TJ0 : u_T := fun k => match k with
  | _ => ("", "", "", false)
def tyJ0 : Nat → FieldType := fun k => match k with
  | _ => .int
abbrev wsJ00 : List Cond := u_ws RJ0 TJ0 0
theorem nmJ0 : ∀ a, a < 0 → ∀ b, b < 0 → a ≠ b → (TJ0 a).2.1 ≠ (TJ0 b).2.1 := by decide +kernel
theorem tyJ0_ok : ∀ k, k < 0 → parseFieldDescriptor (TJ0 k).2.2.1 = some (tyJ0 k) := by decide +kernel
def RJ10 : String := "java/lang/System"
def TJ10 : u_T := fun k => match k with
  | _ => ("", "", "", false)
def tyJ10 : Nat → FieldType := fun k => match k with
  | _ => .int
abbrev wsJ100 : List Cond := u_ws RJ10 TJ10 0
theorem nmJ10 : ∀ a, a < 0 → ∀ b, b < 0 → a ≠ b → (TJ10 a).2.1 ≠ (TJ10 b).2.1 := by decide +kernel
theorem tyJ10_ok : ∀ k, k < 0 → parseFieldDescriptor (TJ10 k).2.2.1 = some (tyJ10 k) := by decide +kernel
def RL : String := "SledgeRaceLaw"
abbrev cL_setLength : ByteArray := method_3_code
def yL_setLength : MethodName := ⟨RL, "setLength", "(LSledgeRace;I[J)I"⟩
abbrev cL_lay : ByteArray := method_4_code
def yL_lay : MethodName := ⟨RL, "lay", "(LSledgeRace;III[J)I"⟩
abbrev cL_ground : ByteArray := method_5_code
def yL_ground : MethodName := ⟨RL, "ground", "(LSledgeRace;IZ[J)I"⟩
abbrev cL_addTeam : ByteArray := method_6_code
def yL_addTeam : MethodName := ⟨RL, "addTeam", "(LSledgeRace;III[J)I"⟩
abbrev cL_setCrew : ByteArray := method_7_code
def yL_setCrew : MethodName := ⟨RL, "setCrew", "(LSledgeRace;IIIII[J)I"⟩
abbrev cL_order : ByteArray := method_8_code
def yL_order : MethodName := ⟨RL, "order", "(LSledgeRace;III[J)I"⟩
abbrev cL_run : ByteArray := method_9_code
def yL_run : MethodName := ⟨RL, "run", "(LSledgeRace;I[J)I"⟩
abbrev cL_count : ByteArray := method_10_code
def yL_count : MethodName := ⟨RL, "count", "(LSledgeRace;I[J)I"⟩
abbrev cL_team : ByteArray := method_11_code
def yL_team : MethodName := ⟨RL, "team", "(LSledgeRace;II[J)I"⟩
abbrev cL_roller : ByteArray := method_12_code
def yL_roller : MethodName := ⟨RL, "roller", "(LSledgeRace;II[J)I"⟩
abbrev cL_next : ByteArray := method_13_code
def yL_next : MethodName := ⟨RL, "next", "(LSledgeRace;II[J)I"⟩
abbrev cL_ranked : ByteArray := method_14_code
def yL_ranked : MethodName := ⟨RL, "ranked", "(LSledgeRace;I[J)I"⟩
abbrev cL_foresee : ByteArray := method_15_code
def yL_foresee : MethodName := ⟨RL, "foresee", "(LSledgeRace;III[J)I"⟩
abbrev cL_advise : ByteArray := method_16_code
def yL_advise : MethodName := ⟨RL, "advise", "(LSledgeRace;II[J)I"⟩
abbrev cL_law : ByteArray := code
def yL_law : MethodName := ⟨RL, "law", "([I)Z"⟩
def wsX0_goToStart : List Cond := .code yX0_goToStart cX0_goToStart 2 none :: ([.fieldLink RX0 53 "SledgeRace$Team" "front" "I", .fieldLink RX0 56 "SledgeRace$Team" "breath" "I", .fieldLink RX0 31 "SledgeRace$Team" "wholeRope" "I", .fieldLink RX0 59 "SledgeRace$Team" "rope" "I", .fieldLink RX0 62 "SledgeRace$Team" "knotting" "I", .fieldLink RX0 65 "SledgeRace$Team" "breaks" "I", .fieldLink RX0 68 "SledgeRace$Team" "way" "I", .fieldLink RX0 71 "SledgeRace$Team" "endTick" "I", .fieldLink RX0 19 "SledgeRace$Team" "rollers" "I", .fieldLink RX0 40 "SledgeRace$Team" "places" "[I", .fieldLink RX0 13 "SledgeRace$Team" "length" "I", .fieldLink RX0 44 "SledgeRace$Team" "loads" "[I", .fieldLink RX0 47 "SledgeRace$Team" "ticksToGo" "[I"] ++ wsX00)
def wsX0_init_r1 : List Cond := [Cond.methodLink RX0 1 objectInit, Cond.instanceMethod objectInit, Cond.code objectInit ⟨#[0xb1]⟩ 1 none, Cond.fieldLink RX0 7 "SledgeRace$Team" "number" "I", Cond.fieldLink RX0 13 "SledgeRace$Team" "length" "I", Cond.fieldLink RX0 16 "SledgeRace$Team" "weight" "I", Cond.fieldLink RX0 19 "SledgeRace$Team" "rollers" "I", Cond.fieldLink RX0 22 "SledgeRace$Team" "pullers" "I", Cond.fieldLink RX0 25 "SledgeRace$Team" "strength" "I", Cond.fieldLink RX0 28 "SledgeRace$Team" "runners" "I", Cond.fieldLink RX0 31 "SledgeRace$Team" "wholeRope" "I", Cond.fieldLink RX0 34 "SledgeRace$Team" "effort" "I", Cond.fieldLink RX0 37 "SledgeRace$Team" "gap" "I", Cond.arrayClass .int, Cond.fieldLink RX0 40 "SledgeRace$Team" "places" "[I", Cond.fieldLink RX0 44 "SledgeRace$Team" "loads" "[I", Cond.fieldLink RX0 47 "SledgeRace$Team" "ticksToGo" "[I", Cond.methodLink RX0 50 yX0_goToStart, Cond.instanceMethod yX0_goToStart, Cond.selects RX0 yX0_goToStart yX0_goToStart, Cond.initialized RX0, Cond.code yX0_goToStart cX0_goToStart 2 none, Cond.fieldLink RX0 53 "SledgeRace$Team" "front" "I", Cond.fieldLink RX0 56 "SledgeRace$Team" "breath" "I"]
def wsX0_init_r2 : List Cond := [Cond.fieldLink RX0 59 "SledgeRace$Team" "rope" "I", Cond.fieldLink RX0 62 "SledgeRace$Team" "knotting" "I", Cond.fieldLink RX0 65 "SledgeRace$Team" "breaks" "I", Cond.fieldLink RX0 68 "SledgeRace$Team" "way" "I", Cond.fieldLink RX0 71 "SledgeRace$Team" "endTick" "I"]
def wsX0_init : List Cond := .code yX0_init cX0_init 5 none :: ((wsX0_init_r1 ++ wsX0_init_r2) ++ wsX00)
def wsX0_copyRow : List Cond := .code yX0_copyRow cX0_copyRow 3 none :: ([])
def wsX0_copyFrom : List Cond := .code yX0_copyFrom cX0_copyFrom 2 none :: ([.fieldLink RX0 7 "SledgeRace$Team" "number" "I", .fieldLink RX0 13 "SledgeRace$Team" "length" "I", .fieldLink RX0 16 "SledgeRace$Team" "weight" "I", .fieldLink RX0 19 "SledgeRace$Team" "rollers" "I", .fieldLink RX0 22 "SledgeRace$Team" "pullers" "I", .fieldLink RX0 25 "SledgeRace$Team" "strength" "I", .fieldLink RX0 28 "SledgeRace$Team" "runners" "I", .fieldLink RX0 31 "SledgeRace$Team" "wholeRope" "I", .fieldLink RX0 34 "SledgeRace$Team" "effort" "I", .fieldLink RX0 37 "SledgeRace$Team" "gap" "I", .fieldLink RX0 53 "SledgeRace$Team" "front" "I", .fieldLink RX0 56 "SledgeRace$Team" "breath" "I", .fieldLink RX0 59 "SledgeRace$Team" "rope" "I", .fieldLink RX0 62 "SledgeRace$Team" "knotting" "I", .fieldLink RX0 65 "SledgeRace$Team" "breaks" "I", .fieldLink RX0 68 "SledgeRace$Team" "way" "I", .fieldLink RX0 71 "SledgeRace$Team" "endTick" "I", .fieldLink RX0 40 "SledgeRace$Team" "places" "[I", .fieldLink RX0 44 "SledgeRace$Team" "loads" "[I", .fieldLink RX0 47 "SledgeRace$Team" "ticksToGo" "[I", .methodLink RX0 74 yX0_copyRow, .static yX0_copyRow, .initialized RX0, .code yX0_copyRow cX0_copyRow 3 none] ++ wsX00)
def wsX0_isAtEnd : List Cond := .code yX0_isAtEnd cX0_isAtEnd 1 (some .boolean) :: ([.fieldLink RX0 71 "SledgeRace$Team" "endTick" "I"] ++ wsX00)
def wsX0_pull : List Cond := .code yX0_pull cX0_pull 1 (some .int) :: ([.fieldLink RX0 22 "SledgeRace$Team" "pullers" "I", .fieldLink RX0 25 "SledgeRace$Team" "strength" "I", .fieldLink RX0 34 "SledgeRace$Team" "effort" "I", .fieldLink RX0 56 "SledgeRace$Team" "breath" "I"] ++ wsX00)
def wsX0_breakRope : List Cond := .code yX0_breakRope cX0_breakRope 1 none :: ([.fieldLink RX0 59 "SledgeRace$Team" "rope" "I", .methodLink RX0 110 Lib.Math.max.name, .static Lib.Math.max.name, .initialized "java/lang/Math", .code Lib.Math.max.name Lib.Math.max.code 2 (some .int), .fieldLink RX0 62 "SledgeRace$Team" "knotting" "I", .fieldLink RX0 65 "SledgeRace$Team" "breaks" "I"] ++ wsX00)
def wsX0_breathe : List Cond := .code yX0_breathe cX0_breathe 3 none :: ([.fieldLink RX0 56 "SledgeRace$Team" "breath" "I", .methodLink RX0 110 Lib.Math.max.name, .static Lib.Math.max.name, .initialized "java/lang/Math", .code Lib.Math.max.name Lib.Math.max.code 2 (some .int), .methodLink RX0 123 Lib.Math.min.name, .static Lib.Math.min.name, .code Lib.Math.min.name Lib.Math.min.code 2 (some .int)] ++ wsX00)
def wsX1_groundAt : List Cond := .code yX1_groundAt cX1_groundAt 8 (some .int) :: ([.fieldLink RX1 16 "SledgeRace$Track" "softnesses" "[I", .fieldLink RX1 13 "SledgeRace$Track" "slopes" "[I", .methodLink RX1 26 Lib.Math.max.name, .static Lib.Math.max.name, .initialized "java/lang/Math", .code Lib.Math.max.name Lib.Math.max.code 2 (some .int), .fieldLink RX1 19 "SledgeRace$Track" "stretches" "I", .fieldLink RX1 9 "SledgeRace$Track" "starts" "[I"] ++ wsX10)
def wsX0_sideOf : List Cond := .code yX0_sideOf cX0_sideOf 2 (some .int) :: ([.fieldLink RX0 53 "SledgeRace$Team" "front" "I", .fieldLink RX0 13 "SledgeRace$Team" "length" "I"] ++ wsX00)
def wsX0_rollersLying : List Cond := .code yX0_rollersLying cX0_rollersLying 4 (some .int) :: ([.fieldLink RX0 19 "SledgeRace$Team" "rollers" "I", .fieldLink RX0 40 "SledgeRace$Team" "places" "[I", .methodLink RX0 126 yX0_sideOf, .instanceMethod yX0_sideOf, .selects RX0 yX0_sideOf yX0_sideOf, .initialized RX0, .code yX0_sideOf cX0_sideOf 2 (some .int), .fieldLink RX0 53 "SledgeRace$Team" "front" "I", .fieldLink RX0 13 "SledgeRace$Team" "length" "I"] ++ wsX00)
def wsX0_drag_r1 : List Cond := [Cond.fieldLink RX0 53 "SledgeRace$Team" "front" "I", Cond.fieldLink RX0 16 "SledgeRace$Team" "weight" "I", Cond.methodLink RX0 110 Lib.Math.max.name, Cond.static Lib.Math.max.name, Cond.initialized "java/lang/Math", Cond.code Lib.Math.max.name Lib.Math.max.code 2 (some .int), Cond.methodLink RX0 123 Lib.Math.min.name, Cond.static Lib.Math.min.name, Cond.code Lib.Math.min.name Lib.Math.min.code 2 (some .int), Cond.methodLink RX0 115 yX1_groundAt, Cond.instanceMethod yX1_groundAt, Cond.selects RX1 yX1_groundAt yX1_groundAt, Cond.initialized RX1, Cond.code yX1_groundAt cX1_groundAt 8 (some .int), Cond.fieldLink RX1 16 "SledgeRace$Track" "softnesses" "[I", Cond.fieldLink RX1 13 "SledgeRace$Track" "slopes" "[I", Cond.methodLink RX1 26 Lib.Math.max.name, Cond.fieldLink RX1 19 "SledgeRace$Track" "stretches" "I", Cond.fieldLink RX1 9 "SledgeRace$Track" "starts" "[I", Cond.methodLink RX0 119 yX0_rollersLying, Cond.instanceMethod yX0_rollersLying, Cond.selects RX0 yX0_rollersLying yX0_rollersLying, Cond.initialized RX0, Cond.code yX0_rollersLying cX0_rollersLying 4 (some .int)]
def wsX0_drag_r2 : List Cond := [Cond.fieldLink RX0 19 "SledgeRace$Team" "rollers" "I", Cond.fieldLink RX0 40 "SledgeRace$Team" "places" "[I", Cond.methodLink RX0 126 yX0_sideOf, Cond.instanceMethod yX0_sideOf, Cond.selects RX0 yX0_sideOf yX0_sideOf, Cond.code yX0_sideOf cX0_sideOf 2 (some .int), Cond.fieldLink RX0 13 "SledgeRace$Team" "length" "I"]
def wsX0_drag : List Cond := .code yX0_drag cX0_drag 8 (some .int) :: ((wsX0_drag_r1 ++ wsX0_drag_r2) ++ wsX00 ++ wsX10)
def wsX0_wayWith : List Cond := .code yX0_wayWith cX0_wayWith 3 (some .int) :: ([.fieldLink RX0 16 "SledgeRace$Team" "weight" "I", .methodLink RX0 110 Lib.Math.max.name, .static Lib.Math.max.name, .initialized "java/lang/Math", .code Lib.Math.max.name Lib.Math.max.code 2 (some .int), .methodLink RX0 123 Lib.Math.min.name, .static Lib.Math.min.name, .code Lib.Math.min.name Lib.Math.min.code 2 (some .int)] ++ wsX00)
def wsX0_moveOn : List Cond := .code yX0_moveOn cX0_moveOn 2 none :: ([.fieldLink RX0 19 "SledgeRace$Team" "rollers" "I", .fieldLink RX0 40 "SledgeRace$Team" "places" "[I", .fieldLink RX0 68 "SledgeRace$Team" "way" "I", .fieldLink RX0 53 "SledgeRace$Team" "front" "I", .methodLink RX0 126 yX0_sideOf, .instanceMethod yX0_sideOf, .selects RX0 yX0_sideOf yX0_sideOf, .initialized RX0, .code yX0_sideOf cX0_sideOf 2 (some .int), .fieldLink RX0 13 "SledgeRace$Team" "length" "I"] ++ wsX00)
def wsX0_lastBehind : List Cond := .code yX0_lastBehind cX0_lastBehind 4 (some .int) :: ([.fieldLink RX0 53 "SledgeRace$Team" "front" "I", .fieldLink RX0 13 "SledgeRace$Team" "length" "I", .fieldLink RX0 19 "SledgeRace$Team" "rollers" "I", .fieldLink RX0 40 "SledgeRace$Team" "places" "[I", .methodLink RX0 126 yX0_sideOf, .instanceMethod yX0_sideOf, .selects RX0 yX0_sideOf yX0_sideOf, .initialized RX0, .code yX0_sideOf cX0_sideOf 2 (some .int)] ++ wsX00)
def wsX0_sendRunners : List Cond := .code yX0_sendRunners cX0_sendRunners 4 none :: ([.fieldLink RX0 28 "SledgeRace$Team" "runners" "I", .fieldLink RX0 44 "SledgeRace$Team" "loads" "[I", .fieldLink RX0 47 "SledgeRace$Team" "ticksToGo" "[I", .fieldLink RX0 40 "SledgeRace$Team" "places" "[I", .fieldLink RX0 53 "SledgeRace$Team" "front" "I", .fieldLink RX0 37 "SledgeRace$Team" "gap" "I", .methodLink RX0 129 yX0_lastBehind, .instanceMethod yX0_lastBehind, .selects RX0 yX0_lastBehind yX0_lastBehind, .initialized RX0, .code yX0_lastBehind cX0_lastBehind 4 (some .int), .fieldLink RX0 13 "SledgeRace$Team" "length" "I", .fieldLink RX0 19 "SledgeRace$Team" "rollers" "I", .methodLink RX0 126 yX0_sideOf, .instanceMethod yX0_sideOf, .selects RX0 yX0_sideOf yX0_sideOf, .code yX0_sideOf cX0_sideOf 2 (some .int)] ++ wsX00)
def wsX0_passTick_r1 : List Cond := [Cond.fieldLink RX0 62 "SledgeRace$Team" "knotting" "I", Cond.fieldLink RX0 59 "SledgeRace$Team" "rope" "I", Cond.fieldLink RX0 68 "SledgeRace$Team" "way" "I", Cond.fieldLink RX0 34 "SledgeRace$Team" "effort" "I", Cond.fieldLink RX0 53 "SledgeRace$Team" "front" "I", Cond.fieldLink RX0 71 "SledgeRace$Team" "endTick" "I", Cond.methodLink RX0 78 yX0_isAtEnd, Cond.instanceMethod yX0_isAtEnd, Cond.selects RX0 yX0_isAtEnd yX0_isAtEnd, Cond.initialized RX0, Cond.code yX0_isAtEnd cX0_isAtEnd 1 (some .boolean), Cond.methodLink RX0 82 yX0_pull, Cond.instanceMethod yX0_pull, Cond.selects RX0 yX0_pull yX0_pull, Cond.code yX0_pull cX0_pull 1 (some .int), Cond.fieldLink RX0 22 "SledgeRace$Team" "pullers" "I", Cond.fieldLink RX0 25 "SledgeRace$Team" "strength" "I", Cond.fieldLink RX0 56 "SledgeRace$Team" "breath" "I", Cond.methodLink RX0 86 yX0_breakRope, Cond.instanceMethod yX0_breakRope, Cond.selects RX0 yX0_breakRope yX0_breakRope, Cond.code yX0_breakRope cX0_breakRope 1 none, Cond.methodLink RX0 110 Lib.Math.max.name, Cond.static Lib.Math.max.name]
def wsX0_passTick_r2 : List Cond := [Cond.initialized "java/lang/Math", Cond.code Lib.Math.max.name Lib.Math.max.code 2 (some .int), Cond.fieldLink RX0 65 "SledgeRace$Team" "breaks" "I", Cond.methodLink RX0 89 yX0_breathe, Cond.instanceMethod yX0_breathe, Cond.selects RX0 yX0_breathe yX0_breathe, Cond.code yX0_breathe cX0_breathe 3 none, Cond.methodLink RX0 123 Lib.Math.min.name, Cond.static Lib.Math.min.name, Cond.code Lib.Math.min.name Lib.Math.min.code 2 (some .int), Cond.methodLink RX0 93 yX0_drag, Cond.instanceMethod yX0_drag, Cond.selects RX0 yX0_drag yX0_drag, Cond.code yX0_drag cX0_drag 8 (some .int), Cond.fieldLink RX0 16 "SledgeRace$Team" "weight" "I", Cond.methodLink RX0 115 yX1_groundAt, Cond.instanceMethod yX1_groundAt, Cond.selects RX1 yX1_groundAt yX1_groundAt, Cond.initialized RX1, Cond.code yX1_groundAt cX1_groundAt 8 (some .int), Cond.fieldLink RX1 16 "SledgeRace$Track" "softnesses" "[I", Cond.fieldLink RX1 13 "SledgeRace$Track" "slopes" "[I", Cond.methodLink RX1 26 Lib.Math.max.name, Cond.fieldLink RX1 19 "SledgeRace$Track" "stretches" "I"]
def wsX0_passTick_r3 : List Cond := [Cond.fieldLink RX1 9 "SledgeRace$Track" "starts" "[I", Cond.methodLink RX0 119 yX0_rollersLying, Cond.instanceMethod yX0_rollersLying, Cond.selects RX0 yX0_rollersLying yX0_rollersLying, Cond.code yX0_rollersLying cX0_rollersLying 4 (some .int), Cond.fieldLink RX0 19 "SledgeRace$Team" "rollers" "I", Cond.fieldLink RX0 40 "SledgeRace$Team" "places" "[I", Cond.methodLink RX0 126 yX0_sideOf, Cond.instanceMethod yX0_sideOf, Cond.selects RX0 yX0_sideOf yX0_sideOf, Cond.code yX0_sideOf cX0_sideOf 2 (some .int), Cond.fieldLink RX0 13 "SledgeRace$Team" "length" "I", Cond.methodLink RX0 97 yX0_wayWith, Cond.instanceMethod yX0_wayWith, Cond.selects RX0 yX0_wayWith yX0_wayWith, Cond.code yX0_wayWith cX0_wayWith 3 (some .int), Cond.methodLink RX0 101 yX0_moveOn, Cond.instanceMethod yX0_moveOn, Cond.selects RX0 yX0_moveOn yX0_moveOn, Cond.code yX0_moveOn cX0_moveOn 2 none, Cond.methodLink RX0 104 yX0_sendRunners, Cond.instanceMethod yX0_sendRunners, Cond.selects RX0 yX0_sendRunners yX0_sendRunners, Cond.code yX0_sendRunners cX0_sendRunners 4 none]
def wsX0_passTick_r4 : List Cond := [Cond.fieldLink RX0 28 "SledgeRace$Team" "runners" "I", Cond.fieldLink RX0 44 "SledgeRace$Team" "loads" "[I", Cond.fieldLink RX0 47 "SledgeRace$Team" "ticksToGo" "[I", Cond.fieldLink RX0 37 "SledgeRace$Team" "gap" "I", Cond.methodLink RX0 129 yX0_lastBehind, Cond.instanceMethod yX0_lastBehind, Cond.selects RX0 yX0_lastBehind yX0_lastBehind, Cond.code yX0_lastBehind cX0_lastBehind 4 (some .int)]
def wsX0_passTick : List Cond := .code yX0_passTick cX0_passTick 4 none :: ((wsX0_passTick_r1 ++ (wsX0_passTick_r2 ++ (wsX0_passTick_r3 ++ wsX0_passTick_r4))) ++ wsX00 ++ wsX10)
def wsX0_isAheadOf : List Cond := .code yX0_isAheadOf cX0_isAheadOf 2 (some .boolean) :: ([.fieldLink RX0 71 "SledgeRace$Team" "endTick" "I", .fieldLink RX0 53 "SledgeRace$Team" "front" "I", .fieldLink RX0 7 "SledgeRace$Team" "number" "I", .methodLink RX0 78 yX0_isAtEnd, .instanceMethod yX0_isAtEnd, .selects RX0 yX0_isAtEnd yX0_isAtEnd, .initialized RX0, .code yX0_isAtEnd cX0_isAtEnd 1 (some .boolean)] ++ wsX00)
def wsX0_fact : List Cond := .code yX0_fact cX0_fact 2 (some .int) :: ([.fieldLink RX0 53 "SledgeRace$Team" "front" "I", .fieldLink RX0 56 "SledgeRace$Team" "breath" "I", .fieldLink RX0 59 "SledgeRace$Team" "rope" "I", .fieldLink RX0 62 "SledgeRace$Team" "knotting" "I", .fieldLink RX0 71 "SledgeRace$Team" "endTick" "I", .fieldLink RX0 34 "SledgeRace$Team" "effort" "I", .fieldLink RX0 37 "SledgeRace$Team" "gap" "I", .fieldLink RX0 68 "SledgeRace$Team" "way" "I", .methodLink RX0 119 yX0_rollersLying, .instanceMethod yX0_rollersLying, .selects RX0 yX0_rollersLying yX0_rollersLying, .initialized RX0, .code yX0_rollersLying cX0_rollersLying 4 (some .int), .fieldLink RX0 19 "SledgeRace$Team" "rollers" "I", .fieldLink RX0 40 "SledgeRace$Team" "places" "[I", .methodLink RX0 126 yX0_sideOf, .instanceMethod yX0_sideOf, .selects RX0 yX0_sideOf yX0_sideOf, .code yX0_sideOf cX0_sideOf 2 (some .int), .fieldLink RX0 13 "SledgeRace$Team" "length" "I"] ++ wsX00)
def wsX0_addTo_r1 : List Cond := [Cond.constantLong RX0 132 (31), Cond.fieldLink RX0 19 "SledgeRace$Team" "rollers" "I", Cond.fieldLink RX0 40 "SledgeRace$Team" "places" "[I", Cond.methodLink RX0 134 yX0_fact, Cond.instanceMethod yX0_fact, Cond.selects RX0 yX0_fact yX0_fact, Cond.initialized RX0, Cond.code yX0_fact cX0_fact 2 (some .int), Cond.fieldLink RX0 53 "SledgeRace$Team" "front" "I", Cond.fieldLink RX0 56 "SledgeRace$Team" "breath" "I", Cond.fieldLink RX0 59 "SledgeRace$Team" "rope" "I", Cond.fieldLink RX0 62 "SledgeRace$Team" "knotting" "I", Cond.fieldLink RX0 71 "SledgeRace$Team" "endTick" "I", Cond.fieldLink RX0 34 "SledgeRace$Team" "effort" "I", Cond.fieldLink RX0 37 "SledgeRace$Team" "gap" "I", Cond.fieldLink RX0 68 "SledgeRace$Team" "way" "I", Cond.methodLink RX0 119 yX0_rollersLying, Cond.instanceMethod yX0_rollersLying, Cond.selects RX0 yX0_rollersLying yX0_rollersLying, Cond.code yX0_rollersLying cX0_rollersLying 4 (some .int), Cond.methodLink RX0 126 yX0_sideOf, Cond.instanceMethod yX0_sideOf, Cond.selects RX0 yX0_sideOf yX0_sideOf, Cond.code yX0_sideOf cX0_sideOf 2 (some .int)]
def wsX0_addTo_r2 : List Cond := [Cond.fieldLink RX0 13 "SledgeRace$Team" "length" "I"]
def wsX0_addTo : List Cond := .code yX0_addTo cX0_addTo 6 (some .long) :: ((wsX0_addTo_r1 ++ wsX0_addTo_r2) ++ wsX00)
def wsX1_init : List Cond := .code yX1_init cX1_init 1 none :: ([.methodLink RX1 1 objectInit, .instanceMethod objectInit, .code objectInit ⟨#[0xb1]⟩ 1 none, .arrayClass .int, .fieldLink RX1 9 "SledgeRace$Track" "starts" "[I", .fieldLink RX1 13 "SledgeRace$Track" "slopes" "[I", .fieldLink RX1 16 "SledgeRace$Track" "softnesses" "[I", .fieldLink RX1 19 "SledgeRace$Track" "stretches" "I", .fieldLink RX1 23 "SledgeRace$Track" "length" "I"] ++ wsX10)
def wsX1_putStretch : List Cond := .code yX1_putStretch cX1_putStretch 5 (some .boolean) :: ([.fieldLink RX1 19 "SledgeRace$Track" "stretches" "I", .fieldLink RX1 9 "SledgeRace$Track" "starts" "[I", .fieldLink RX1 13 "SledgeRace$Track" "slopes" "[I", .fieldLink RX1 16 "SledgeRace$Track" "softnesses" "[I"] ++ wsX10)
def wsX2_init_r1 : List Cond := [Cond.methodLink RX2 1 objectInit, Cond.instanceMethod objectInit, Cond.code objectInit ⟨#[0xb1]⟩ 1 none, Cond.classLink RX2 7 RX1, Cond.instantiable RX1 5, Cond.initialized RX1, Cond.fieldLink RX2 10 "SledgeRace" "track" "LSledgeRace$Track;", Cond.classLink RX2 16 RX0, Cond.fieldLink RX2 18 "SledgeRace" "teams" "[LSledgeRace$Team;", Cond.instantiable RX0 20, Cond.initialized RX0, Cond.fieldLink RX2 25 "SledgeRace" "trial" "LSledgeRace$Team;", Cond.fieldLink RX2 29 "SledgeRace" "rival" "LSledgeRace$Team;", Cond.fieldLink RX2 32 "SledgeRace" "teamCount" "I", Cond.fieldLink RX2 36 "SledgeRace" "tick" "I", Cond.methodLink RX2 9 yX1_init, Cond.instanceMethod yX1_init, Cond.code yX1_init cX1_init 1 none, Cond.methodLink RX1 1 objectInit, Cond.arrayClass .int, Cond.fieldLink RX1 9 "SledgeRace$Track" "starts" "[I", Cond.fieldLink RX1 13 "SledgeRace$Track" "slopes" "[I", Cond.fieldLink RX1 16 "SledgeRace$Track" "softnesses" "[I", Cond.fieldLink RX1 19 "SledgeRace$Track" "stretches" "I"]
def wsX2_init_r2 : List Cond := [Cond.fieldLink RX1 23 "SledgeRace$Track" "length" "I", Cond.methodLink RX2 22 yX0_init, Cond.instanceMethod yX0_init, Cond.code yX0_init cX0_init 5 none, Cond.methodLink RX0 1 objectInit, Cond.fieldLink RX0 7 "SledgeRace$Team" "number" "I", Cond.fieldLink RX0 13 "SledgeRace$Team" "length" "I", Cond.fieldLink RX0 16 "SledgeRace$Team" "weight" "I", Cond.fieldLink RX0 19 "SledgeRace$Team" "rollers" "I", Cond.fieldLink RX0 22 "SledgeRace$Team" "pullers" "I", Cond.fieldLink RX0 25 "SledgeRace$Team" "strength" "I", Cond.fieldLink RX0 28 "SledgeRace$Team" "runners" "I", Cond.fieldLink RX0 31 "SledgeRace$Team" "wholeRope" "I", Cond.fieldLink RX0 34 "SledgeRace$Team" "effort" "I", Cond.fieldLink RX0 37 "SledgeRace$Team" "gap" "I", Cond.fieldLink RX0 40 "SledgeRace$Team" "places" "[I", Cond.fieldLink RX0 44 "SledgeRace$Team" "loads" "[I", Cond.fieldLink RX0 47 "SledgeRace$Team" "ticksToGo" "[I", Cond.methodLink RX0 50 yX0_goToStart, Cond.instanceMethod yX0_goToStart, Cond.selects RX0 yX0_goToStart yX0_goToStart, Cond.code yX0_goToStart cX0_goToStart 2 none, Cond.fieldLink RX0 53 "SledgeRace$Team" "front" "I", Cond.fieldLink RX0 56 "SledgeRace$Team" "breath" "I"]
def wsX2_init_r3 : List Cond := [Cond.fieldLink RX0 59 "SledgeRace$Team" "rope" "I", Cond.fieldLink RX0 62 "SledgeRace$Team" "knotting" "I", Cond.fieldLink RX0 65 "SledgeRace$Team" "breaks" "I", Cond.fieldLink RX0 68 "SledgeRace$Team" "way" "I", Cond.fieldLink RX0 71 "SledgeRace$Team" "endTick" "I"]
def wsX2_init : List Cond := .code yX2_init cX2_init 1 none :: ((wsX2_init_r1 ++ (wsX2_init_r2 ++ wsX2_init_r3)) ++ wsX10 ++ wsX20 ++ wsX00)
def wsX2_isOutside : List Cond := .code yX2_isOutside cX2_isOutside 3 (some .boolean) :: ([])
def wsX2_requireStart : List Cond := .code yX2_requireStart cX2_requireStart 1 none :: ([.classLink RX2 61 "java/lang/IllegalStateException", .initialized "java/lang/IllegalStateException", .fieldLink RX2 36 "SledgeRace" "tick" "I"] ++ wsX20 ++ (vx_atS RX2 65 "java/lang/IllegalStateException" ["java/lang/RuntimeException", "java/lang/Exception"]).filter goodWord)
def wsX2_setLength : List Cond := .code yX2_setLength cX2_setLength 3 (some .int) :: ([.classLink RX2 43 "java/lang/IllegalArgumentException", .initialized "java/lang/IllegalArgumentException", .fieldLink RX2 10 "SledgeRace" "track" "LSledgeRace$Track;", .methodLink RX2 39 yX2_isOutside, .static yX2_isOutside, .initialized RX2, .code yX2_isOutside cX2_isOutside 3 (some .boolean), .methodLink RX2 50 yX2_requireStart, .instanceMethod yX2_requireStart, .selects RX2 yX2_requireStart yX2_requireStart, .code yX2_requireStart cX2_requireStart 1 none, .classLink RX2 61 "java/lang/IllegalStateException", .initialized "java/lang/IllegalStateException", .fieldLink RX2 36 "SledgeRace" "tick" "I"] ++ wsX20 ++ wsX10 ++ (vx_atS RX2 47 "java/lang/IllegalArgumentException" ["java/lang/RuntimeException", "java/lang/Exception"]).filter goodWord ++ (vx_atS RX2 65 "java/lang/IllegalStateException" ["java/lang/RuntimeException", "java/lang/Exception"]).filter goodWord)
def wsX2_lay : List Cond := .code yX2_lay cX2_lay 4 (some .int) :: ([.classLink RX2 43 "java/lang/IllegalArgumentException", .initialized "java/lang/IllegalArgumentException", .classLink RX2 61 "java/lang/IllegalStateException", .initialized "java/lang/IllegalStateException", .fieldLink RX2 10 "SledgeRace" "track" "LSledgeRace$Track;", .methodLink RX2 39 yX2_isOutside, .static yX2_isOutside, .initialized RX2, .code yX2_isOutside cX2_isOutside 3 (some .boolean), .methodLink RX2 58 yX1_putStretch, .instanceMethod yX1_putStretch, .selects RX1 yX1_putStretch yX1_putStretch, .initialized RX1, .code yX1_putStretch cX1_putStretch 5 (some .boolean), .fieldLink RX1 19 "SledgeRace$Track" "stretches" "I", .fieldLink RX1 9 "SledgeRace$Track" "starts" "[I", .fieldLink RX1 13 "SledgeRace$Track" "slopes" "[I", .fieldLink RX1 16 "SledgeRace$Track" "softnesses" "[I"] ++ wsX20 ++ wsX10 ++ (vx_atS RX2 47 "java/lang/IllegalArgumentException" ["java/lang/RuntimeException", "java/lang/Exception"]).filter goodWord ++ (vx_atS RX2 65 "java/lang/IllegalStateException" ["java/lang/RuntimeException", "java/lang/Exception"]).filter goodWord)
def wsX2_ground : List Cond := .code yX2_ground cX2_ground 3 (some .int) :: ([.classLink RX2 43 "java/lang/IllegalArgumentException", .initialized "java/lang/IllegalArgumentException", .fieldLink RX2 10 "SledgeRace" "track" "LSledgeRace$Track;", .methodLink RX2 39 yX2_isOutside, .static yX2_isOutside, .initialized RX2, .code yX2_isOutside cX2_isOutside 3 (some .boolean), .methodLink RX2 71 yX1_groundAt, .instanceMethod yX1_groundAt, .selects RX1 yX1_groundAt yX1_groundAt, .initialized RX1, .code yX1_groundAt cX1_groundAt 8 (some .int), .fieldLink RX1 16 "SledgeRace$Track" "softnesses" "[I", .fieldLink RX1 13 "SledgeRace$Track" "slopes" "[I", .methodLink RX1 26 Lib.Math.max.name, .static Lib.Math.max.name, .initialized "java/lang/Math", .code Lib.Math.max.name Lib.Math.max.code 2 (some .int), .fieldLink RX1 19 "SledgeRace$Track" "stretches" "I", .fieldLink RX1 9 "SledgeRace$Track" "starts" "[I"] ++ wsX20 ++ wsX10 ++ (vx_atS RX2 47 "java/lang/IllegalArgumentException" ["java/lang/RuntimeException", "java/lang/Exception"]).filter goodWord)
def wsX2_addTeam_r1 : List Cond := [Cond.classLink RX2 43 "java/lang/IllegalArgumentException", Cond.initialized "java/lang/IllegalArgumentException", Cond.classLink RX2 61 "java/lang/IllegalStateException", Cond.initialized "java/lang/IllegalStateException", Cond.fieldLink RX2 32 "SledgeRace" "teamCount" "I", Cond.fieldLink RX2 18 "SledgeRace" "teams" "[LSledgeRace$Team;", Cond.classLink RX2 16 RX0, Cond.instantiable RX0 20, Cond.initialized RX0, Cond.methodLink RX2 39 yX2_isOutside, Cond.static yX2_isOutside, Cond.initialized RX2, Cond.code yX2_isOutside cX2_isOutside 3 (some .boolean), Cond.methodLink RX2 50 yX2_requireStart, Cond.instanceMethod yX2_requireStart, Cond.selects RX2 yX2_requireStart yX2_requireStart, Cond.code yX2_requireStart cX2_requireStart 1 none, Cond.fieldLink RX2 36 "SledgeRace" "tick" "I", Cond.methodLink RX2 22 yX0_init, Cond.instanceMethod yX0_init, Cond.code yX0_init cX0_init 5 none, Cond.methodLink RX0 1 objectInit, Cond.instanceMethod objectInit, Cond.code objectInit ⟨#[0xb1]⟩ 1 none]
def wsX2_addTeam_r2 : List Cond := [Cond.fieldLink RX0 7 "SledgeRace$Team" "number" "I", Cond.fieldLink RX0 13 "SledgeRace$Team" "length" "I", Cond.fieldLink RX0 16 "SledgeRace$Team" "weight" "I", Cond.fieldLink RX0 19 "SledgeRace$Team" "rollers" "I", Cond.fieldLink RX0 22 "SledgeRace$Team" "pullers" "I", Cond.fieldLink RX0 25 "SledgeRace$Team" "strength" "I", Cond.fieldLink RX0 28 "SledgeRace$Team" "runners" "I", Cond.fieldLink RX0 31 "SledgeRace$Team" "wholeRope" "I", Cond.fieldLink RX0 34 "SledgeRace$Team" "effort" "I", Cond.fieldLink RX0 37 "SledgeRace$Team" "gap" "I", Cond.arrayClass .int, Cond.fieldLink RX0 40 "SledgeRace$Team" "places" "[I", Cond.fieldLink RX0 44 "SledgeRace$Team" "loads" "[I", Cond.fieldLink RX0 47 "SledgeRace$Team" "ticksToGo" "[I", Cond.methodLink RX0 50 yX0_goToStart, Cond.instanceMethod yX0_goToStart, Cond.selects RX0 yX0_goToStart yX0_goToStart, Cond.code yX0_goToStart cX0_goToStart 2 none, Cond.fieldLink RX0 53 "SledgeRace$Team" "front" "I", Cond.fieldLink RX0 56 "SledgeRace$Team" "breath" "I", Cond.fieldLink RX0 59 "SledgeRace$Team" "rope" "I", Cond.fieldLink RX0 62 "SledgeRace$Team" "knotting" "I", Cond.fieldLink RX0 65 "SledgeRace$Team" "breaks" "I", Cond.fieldLink RX0 68 "SledgeRace$Team" "way" "I"]
def wsX2_addTeam_r3 : List Cond := [Cond.fieldLink RX0 71 "SledgeRace$Team" "endTick" "I"]
def wsX2_addTeam : List Cond := .code yX2_addTeam cX2_addTeam 5 (some .int) :: ((wsX2_addTeam_r1 ++ (wsX2_addTeam_r2 ++ wsX2_addTeam_r3)) ++ wsX20 ++ wsX00 ++ (vx_atS RX2 47 "java/lang/IllegalArgumentException" ["java/lang/RuntimeException", "java/lang/Exception"]).filter goodWord ++ (vx_atS RX2 65 "java/lang/IllegalStateException" ["java/lang/RuntimeException", "java/lang/Exception"]).filter goodWord)
def wsX2_teamNumbered : List Cond := .code yX2_teamNumbered cX2_teamNumbered 3 (some (.object "SledgeRace$Team")) :: ([.classLink RX2 122 "java/lang/IndexOutOfBoundsException", .initialized "java/lang/IndexOutOfBoundsException", .fieldLink RX2 18 "SledgeRace" "teams" "[LSledgeRace$Team;"] ++ wsX20 ++ (vx_atS RX2 126 "java/lang/IndexOutOfBoundsException" ["java/lang/RuntimeException", "java/lang/Exception"]).filter goodWord)
def wsX2_setCrew : List Cond := .code yX2_setCrew cX2_setCrew 8 (some .int) :: ([.classLink RX2 43 "java/lang/IllegalArgumentException", .initialized "java/lang/IllegalArgumentException", .methodLink RX2 79 yX2_teamNumbered, .instanceMethod yX2_teamNumbered, .selects RX2 yX2_teamNumbered yX2_teamNumbered, .initialized RX2, .code yX2_teamNumbered cX2_teamNumbered 3 (some (.object "SledgeRace$Team")), .classLink RX2 122 "java/lang/IndexOutOfBoundsException", .initialized "java/lang/IndexOutOfBoundsException", .fieldLink RX2 18 "SledgeRace" "teams" "[LSledgeRace$Team;", .methodLink RX2 39 yX2_isOutside, .static yX2_isOutside, .code yX2_isOutside cX2_isOutside 3 (some .boolean), .methodLink RX2 50 yX2_requireStart, .instanceMethod yX2_requireStart, .selects RX2 yX2_requireStart yX2_requireStart, .code yX2_requireStart cX2_requireStart 1 none, .classLink RX2 61 "java/lang/IllegalStateException", .initialized "java/lang/IllegalStateException", .fieldLink RX2 36 "SledgeRace" "tick" "I"] ++ wsX00 ++ wsX20 ++ (vx_atS RX2 47 "java/lang/IllegalArgumentException" ["java/lang/RuntimeException", "java/lang/Exception"]).filter goodWord ++ (vx_atS RX2 126 "java/lang/IndexOutOfBoundsException" ["java/lang/RuntimeException", "java/lang/Exception"]).filter goodWord ++ (vx_atS RX2 65 "java/lang/IllegalStateException" ["java/lang/RuntimeException", "java/lang/Exception"]).filter goodWord)
def wsX2_order : List Cond := .code yX2_order cX2_order 6 (some .int) :: ([.classLink RX2 43 "java/lang/IllegalArgumentException", .initialized "java/lang/IllegalArgumentException", .methodLink RX2 79 yX2_teamNumbered, .instanceMethod yX2_teamNumbered, .selects RX2 yX2_teamNumbered yX2_teamNumbered, .initialized RX2, .code yX2_teamNumbered cX2_teamNumbered 3 (some (.object "SledgeRace$Team")), .classLink RX2 122 "java/lang/IndexOutOfBoundsException", .initialized "java/lang/IndexOutOfBoundsException", .fieldLink RX2 18 "SledgeRace" "teams" "[LSledgeRace$Team;", .methodLink RX2 39 yX2_isOutside, .static yX2_isOutside, .code yX2_isOutside cX2_isOutside 3 (some .boolean)] ++ wsX00 ++ wsX20 ++ (vx_atS RX2 47 "java/lang/IllegalArgumentException" ["java/lang/RuntimeException", "java/lang/Exception"]).filter goodWord ++ (vx_atS RX2 126 "java/lang/IndexOutOfBoundsException" ["java/lang/RuntimeException", "java/lang/Exception"]).filter goodWord)
def wsX2_passTick_r1 : List Cond := [Cond.fieldLink RX2 36 "SledgeRace" "tick" "I", Cond.fieldLink RX2 18 "SledgeRace" "teams" "[LSledgeRace$Team;", Cond.fieldLink RX2 10 "SledgeRace" "track" "LSledgeRace$Track;", Cond.methodLink RX2 194 yX0_passTick, Cond.instanceMethod yX0_passTick, Cond.selects RX0 yX0_passTick yX0_passTick, Cond.initialized RX0, Cond.code yX0_passTick cX0_passTick 4 none, Cond.fieldLink RX0 62 "SledgeRace$Team" "knotting" "I", Cond.fieldLink RX0 59 "SledgeRace$Team" "rope" "I", Cond.fieldLink RX0 68 "SledgeRace$Team" "way" "I", Cond.fieldLink RX0 34 "SledgeRace$Team" "effort" "I", Cond.fieldLink RX0 53 "SledgeRace$Team" "front" "I", Cond.fieldLink RX0 71 "SledgeRace$Team" "endTick" "I", Cond.methodLink RX0 78 yX0_isAtEnd, Cond.instanceMethod yX0_isAtEnd, Cond.selects RX0 yX0_isAtEnd yX0_isAtEnd, Cond.code yX0_isAtEnd cX0_isAtEnd 1 (some .boolean), Cond.methodLink RX0 82 yX0_pull, Cond.instanceMethod yX0_pull, Cond.selects RX0 yX0_pull yX0_pull, Cond.code yX0_pull cX0_pull 1 (some .int), Cond.fieldLink RX0 22 "SledgeRace$Team" "pullers" "I", Cond.fieldLink RX0 25 "SledgeRace$Team" "strength" "I"]
def wsX2_passTick_r2 : List Cond := [Cond.fieldLink RX0 56 "SledgeRace$Team" "breath" "I", Cond.methodLink RX0 86 yX0_breakRope, Cond.instanceMethod yX0_breakRope, Cond.selects RX0 yX0_breakRope yX0_breakRope, Cond.code yX0_breakRope cX0_breakRope 1 none, Cond.methodLink RX0 110 Lib.Math.max.name, Cond.static Lib.Math.max.name, Cond.initialized "java/lang/Math", Cond.code Lib.Math.max.name Lib.Math.max.code 2 (some .int), Cond.fieldLink RX0 65 "SledgeRace$Team" "breaks" "I", Cond.methodLink RX0 89 yX0_breathe, Cond.instanceMethod yX0_breathe, Cond.selects RX0 yX0_breathe yX0_breathe, Cond.code yX0_breathe cX0_breathe 3 none, Cond.methodLink RX0 123 Lib.Math.min.name, Cond.static Lib.Math.min.name, Cond.code Lib.Math.min.name Lib.Math.min.code 2 (some .int), Cond.methodLink RX0 93 yX0_drag, Cond.instanceMethod yX0_drag, Cond.selects RX0 yX0_drag yX0_drag, Cond.code yX0_drag cX0_drag 8 (some .int), Cond.fieldLink RX0 16 "SledgeRace$Team" "weight" "I", Cond.methodLink RX0 115 yX1_groundAt, Cond.instanceMethod yX1_groundAt]
def wsX2_passTick_r3 : List Cond := [Cond.selects RX1 yX1_groundAt yX1_groundAt, Cond.initialized RX1, Cond.code yX1_groundAt cX1_groundAt 8 (some .int), Cond.fieldLink RX1 16 "SledgeRace$Track" "softnesses" "[I", Cond.fieldLink RX1 13 "SledgeRace$Track" "slopes" "[I", Cond.methodLink RX1 26 Lib.Math.max.name, Cond.fieldLink RX1 19 "SledgeRace$Track" "stretches" "I", Cond.fieldLink RX1 9 "SledgeRace$Track" "starts" "[I", Cond.methodLink RX0 119 yX0_rollersLying, Cond.instanceMethod yX0_rollersLying, Cond.selects RX0 yX0_rollersLying yX0_rollersLying, Cond.code yX0_rollersLying cX0_rollersLying 4 (some .int), Cond.fieldLink RX0 19 "SledgeRace$Team" "rollers" "I", Cond.fieldLink RX0 40 "SledgeRace$Team" "places" "[I", Cond.methodLink RX0 126 yX0_sideOf, Cond.instanceMethod yX0_sideOf, Cond.selects RX0 yX0_sideOf yX0_sideOf, Cond.code yX0_sideOf cX0_sideOf 2 (some .int), Cond.fieldLink RX0 13 "SledgeRace$Team" "length" "I", Cond.methodLink RX0 97 yX0_wayWith, Cond.instanceMethod yX0_wayWith, Cond.selects RX0 yX0_wayWith yX0_wayWith, Cond.code yX0_wayWith cX0_wayWith 3 (some .int), Cond.methodLink RX0 101 yX0_moveOn]
def wsX2_passTick_r4 : List Cond := [Cond.instanceMethod yX0_moveOn, Cond.selects RX0 yX0_moveOn yX0_moveOn, Cond.code yX0_moveOn cX0_moveOn 2 none, Cond.methodLink RX0 104 yX0_sendRunners, Cond.instanceMethod yX0_sendRunners, Cond.selects RX0 yX0_sendRunners yX0_sendRunners, Cond.code yX0_sendRunners cX0_sendRunners 4 none, Cond.fieldLink RX0 28 "SledgeRace$Team" "runners" "I", Cond.fieldLink RX0 44 "SledgeRace$Team" "loads" "[I", Cond.fieldLink RX0 47 "SledgeRace$Team" "ticksToGo" "[I", Cond.fieldLink RX0 37 "SledgeRace$Team" "gap" "I", Cond.methodLink RX0 129 yX0_lastBehind, Cond.instanceMethod yX0_lastBehind, Cond.selects RX0 yX0_lastBehind yX0_lastBehind, Cond.code yX0_lastBehind cX0_lastBehind 4 (some .int)]
def wsX2_passTick : List Cond := .code yX2_passTick cX2_passTick 5 none :: ((wsX2_passTick_r1 ++ (wsX2_passTick_r2 ++ (wsX2_passTick_r3 ++ wsX2_passTick_r4))) ++ wsX20 ++ wsX00 ++ wsX10)
def wsX2_teamsAtEnd : List Cond := .code yX2_teamsAtEnd cX2_teamsAtEnd 6 (some .int) :: ([.fieldLink RX2 18 "SledgeRace" "teams" "[LSledgeRace$Team;", .methodLink RX2 215 yX0_isAtEnd, .instanceMethod yX0_isAtEnd, .selects RX0 yX0_isAtEnd yX0_isAtEnd, .initialized RX0, .code yX0_isAtEnd cX0_isAtEnd 1 (some .boolean), .fieldLink RX0 71 "SledgeRace$Team" "endTick" "I"] ++ wsX20 ++ wsX00)
def wsX2_run_r1 : List Cond := [Cond.classLink RX2 43 "java/lang/IllegalArgumentException", Cond.initialized "java/lang/IllegalArgumentException", Cond.classLink RX2 61 "java/lang/IllegalStateException", Cond.initialized "java/lang/IllegalStateException", Cond.fieldLink RX2 32 "SledgeRace" "teamCount" "I", Cond.methodLink RX2 39 yX2_isOutside, Cond.static yX2_isOutside, Cond.initialized RX2, Cond.code yX2_isOutside cX2_isOutside 3 (some .boolean), Cond.methodLink RX2 112 yX2_passTick, Cond.instanceMethod yX2_passTick, Cond.selects RX2 yX2_passTick yX2_passTick, Cond.code yX2_passTick cX2_passTick 5 none, Cond.fieldLink RX2 36 "SledgeRace" "tick" "I", Cond.fieldLink RX2 18 "SledgeRace" "teams" "[LSledgeRace$Team;", Cond.fieldLink RX2 10 "SledgeRace" "track" "LSledgeRace$Track;", Cond.methodLink RX2 194 yX0_passTick, Cond.instanceMethod yX0_passTick, Cond.selects RX0 yX0_passTick yX0_passTick, Cond.initialized RX0, Cond.code yX0_passTick cX0_passTick 4 none, Cond.fieldLink RX0 62 "SledgeRace$Team" "knotting" "I", Cond.fieldLink RX0 59 "SledgeRace$Team" "rope" "I", Cond.fieldLink RX0 68 "SledgeRace$Team" "way" "I"]
def wsX2_run_r2 : List Cond := [Cond.fieldLink RX0 34 "SledgeRace$Team" "effort" "I", Cond.fieldLink RX0 53 "SledgeRace$Team" "front" "I", Cond.fieldLink RX0 71 "SledgeRace$Team" "endTick" "I", Cond.methodLink RX0 78 yX0_isAtEnd, Cond.instanceMethod yX0_isAtEnd, Cond.selects RX0 yX0_isAtEnd yX0_isAtEnd, Cond.code yX0_isAtEnd cX0_isAtEnd 1 (some .boolean), Cond.methodLink RX0 82 yX0_pull, Cond.instanceMethod yX0_pull, Cond.selects RX0 yX0_pull yX0_pull, Cond.code yX0_pull cX0_pull 1 (some .int), Cond.fieldLink RX0 22 "SledgeRace$Team" "pullers" "I", Cond.fieldLink RX0 25 "SledgeRace$Team" "strength" "I", Cond.fieldLink RX0 56 "SledgeRace$Team" "breath" "I", Cond.methodLink RX0 86 yX0_breakRope, Cond.instanceMethod yX0_breakRope, Cond.selects RX0 yX0_breakRope yX0_breakRope, Cond.code yX0_breakRope cX0_breakRope 1 none, Cond.methodLink RX0 110 Lib.Math.max.name, Cond.static Lib.Math.max.name, Cond.initialized "java/lang/Math", Cond.code Lib.Math.max.name Lib.Math.max.code 2 (some .int), Cond.fieldLink RX0 65 "SledgeRace$Team" "breaks" "I", Cond.methodLink RX0 89 yX0_breathe]
def wsX2_run_r3 : List Cond := [Cond.instanceMethod yX0_breathe, Cond.selects RX0 yX0_breathe yX0_breathe, Cond.code yX0_breathe cX0_breathe 3 none, Cond.methodLink RX0 123 Lib.Math.min.name, Cond.static Lib.Math.min.name, Cond.code Lib.Math.min.name Lib.Math.min.code 2 (some .int), Cond.methodLink RX0 93 yX0_drag, Cond.instanceMethod yX0_drag, Cond.selects RX0 yX0_drag yX0_drag, Cond.code yX0_drag cX0_drag 8 (some .int), Cond.fieldLink RX0 16 "SledgeRace$Team" "weight" "I", Cond.methodLink RX0 115 yX1_groundAt, Cond.instanceMethod yX1_groundAt, Cond.selects RX1 yX1_groundAt yX1_groundAt, Cond.initialized RX1, Cond.code yX1_groundAt cX1_groundAt 8 (some .int), Cond.fieldLink RX1 16 "SledgeRace$Track" "softnesses" "[I", Cond.fieldLink RX1 13 "SledgeRace$Track" "slopes" "[I", Cond.methodLink RX1 26 Lib.Math.max.name, Cond.fieldLink RX1 19 "SledgeRace$Track" "stretches" "I", Cond.fieldLink RX1 9 "SledgeRace$Track" "starts" "[I", Cond.methodLink RX0 119 yX0_rollersLying, Cond.instanceMethod yX0_rollersLying, Cond.selects RX0 yX0_rollersLying yX0_rollersLying]
def wsX2_run_r4 : List Cond := [Cond.code yX0_rollersLying cX0_rollersLying 4 (some .int), Cond.fieldLink RX0 19 "SledgeRace$Team" "rollers" "I", Cond.fieldLink RX0 40 "SledgeRace$Team" "places" "[I", Cond.methodLink RX0 126 yX0_sideOf, Cond.instanceMethod yX0_sideOf, Cond.selects RX0 yX0_sideOf yX0_sideOf, Cond.code yX0_sideOf cX0_sideOf 2 (some .int), Cond.fieldLink RX0 13 "SledgeRace$Team" "length" "I", Cond.methodLink RX0 97 yX0_wayWith, Cond.instanceMethod yX0_wayWith, Cond.selects RX0 yX0_wayWith yX0_wayWith, Cond.code yX0_wayWith cX0_wayWith 3 (some .int), Cond.methodLink RX0 101 yX0_moveOn, Cond.instanceMethod yX0_moveOn, Cond.selects RX0 yX0_moveOn yX0_moveOn, Cond.code yX0_moveOn cX0_moveOn 2 none, Cond.methodLink RX0 104 yX0_sendRunners, Cond.instanceMethod yX0_sendRunners, Cond.selects RX0 yX0_sendRunners yX0_sendRunners, Cond.code yX0_sendRunners cX0_sendRunners 4 none, Cond.fieldLink RX0 28 "SledgeRace$Team" "runners" "I", Cond.fieldLink RX0 44 "SledgeRace$Team" "loads" "[I", Cond.fieldLink RX0 47 "SledgeRace$Team" "ticksToGo" "[I", Cond.fieldLink RX0 37 "SledgeRace$Team" "gap" "I"]
def wsX2_run_r5 : List Cond := [Cond.methodLink RX0 129 yX0_lastBehind, Cond.instanceMethod yX0_lastBehind, Cond.selects RX0 yX0_lastBehind yX0_lastBehind, Cond.code yX0_lastBehind cX0_lastBehind 4 (some .int), Cond.methodLink RX2 115 yX2_teamsAtEnd, Cond.instanceMethod yX2_teamsAtEnd, Cond.selects RX2 yX2_teamsAtEnd yX2_teamsAtEnd, Cond.code yX2_teamsAtEnd cX2_teamsAtEnd 6 (some .int), Cond.methodLink RX2 215 yX0_isAtEnd]
def wsX2_run : List Cond := .code yX2_run cX2_run 3 (some .int) :: ((wsX2_run_r1 ++ (wsX2_run_r2 ++ (wsX2_run_r3 ++ (wsX2_run_r4 ++ wsX2_run_r5)))) ++ wsX20 ++ wsX00 ++ wsX10 ++ (vx_atS RX2 47 "java/lang/IllegalArgumentException" ["java/lang/RuntimeException", "java/lang/Exception"]).filter goodWord ++ (vx_atS RX2 65 "java/lang/IllegalStateException" ["java/lang/RuntimeException", "java/lang/Exception"]).filter goodWord)
def wsX2_restart : List Cond := .code yX2_restart cX2_restart 5 (some .int) :: ([.fieldLink RX2 36 "SledgeRace" "tick" "I", .fieldLink RX2 18 "SledgeRace" "teams" "[LSledgeRace$Team;", .fieldLink RX2 32 "SledgeRace" "teamCount" "I", .methodLink RX2 119 yX0_goToStart, .instanceMethod yX0_goToStart, .selects RX0 yX0_goToStart yX0_goToStart, .initialized RX0, .code yX0_goToStart cX0_goToStart 2 none, .fieldLink RX0 53 "SledgeRace$Team" "front" "I", .fieldLink RX0 56 "SledgeRace$Team" "breath" "I", .fieldLink RX0 31 "SledgeRace$Team" "wholeRope" "I", .fieldLink RX0 59 "SledgeRace$Team" "rope" "I", .fieldLink RX0 62 "SledgeRace$Team" "knotting" "I", .fieldLink RX0 65 "SledgeRace$Team" "breaks" "I", .fieldLink RX0 68 "SledgeRace$Team" "way" "I", .fieldLink RX0 71 "SledgeRace$Team" "endTick" "I", .fieldLink RX0 19 "SledgeRace$Team" "rollers" "I", .fieldLink RX0 40 "SledgeRace$Team" "places" "[I", .fieldLink RX0 13 "SledgeRace$Team" "length" "I", .fieldLink RX0 44 "SledgeRace$Team" "loads" "[I", .fieldLink RX0 47 "SledgeRace$Team" "ticksToGo" "[I"] ++ wsX20 ++ wsX00)
def wsX2_ropesBroken : List Cond := .code yX2_ropesBroken cX2_ropesBroken 6 (some .int) :: ([.fieldLink RX2 18 "SledgeRace" "teams" "[LSledgeRace$Team;"] ++ wsX20 ++ wsX00)
def wsX2_countOf : List Cond := .code yX2_countOf cX2_countOf 2 (some .int) :: ([.fieldLink RX2 36 "SledgeRace" "tick" "I", .fieldLink RX2 32 "SledgeRace" "teamCount" "I", .fieldLink RX2 10 "SledgeRace" "track" "LSledgeRace$Track;", .methodLink RX2 115 yX2_teamsAtEnd, .instanceMethod yX2_teamsAtEnd, .selects RX2 yX2_teamsAtEnd yX2_teamsAtEnd, .initialized RX2, .code yX2_teamsAtEnd cX2_teamsAtEnd 6 (some .int), .fieldLink RX2 18 "SledgeRace" "teams" "[LSledgeRace$Team;", .methodLink RX2 215 yX0_isAtEnd, .instanceMethod yX0_isAtEnd, .selects RX0 yX0_isAtEnd yX0_isAtEnd, .initialized RX0, .code yX0_isAtEnd cX0_isAtEnd 1 (some .boolean), .fieldLink RX0 71 "SledgeRace$Team" "endTick" "I", .methodLink RX2 212 yX2_ropesBroken, .instanceMethod yX2_ropesBroken, .selects RX2 yX2_ropesBroken yX2_ropesBroken, .code yX2_ropesBroken cX2_ropesBroken 6 (some .int)] ++ wsX20 ++ wsX10 ++ wsX00)
def wsX2_count_r1 : List Cond := [Cond.classLink RX2 122 "java/lang/IndexOutOfBoundsException", Cond.initialized "java/lang/IndexOutOfBoundsException", Cond.methodLink RX2 39 yX2_isOutside, Cond.static yX2_isOutside, Cond.initialized RX2, Cond.code yX2_isOutside cX2_isOutside 3 (some .boolean), Cond.methodLink RX2 127 yX2_countOf, Cond.instanceMethod yX2_countOf, Cond.selects RX2 yX2_countOf yX2_countOf, Cond.code yX2_countOf cX2_countOf 2 (some .int), Cond.fieldLink RX2 36 "SledgeRace" "tick" "I", Cond.fieldLink RX2 32 "SledgeRace" "teamCount" "I", Cond.fieldLink RX2 10 "SledgeRace" "track" "LSledgeRace$Track;", Cond.methodLink RX2 115 yX2_teamsAtEnd, Cond.instanceMethod yX2_teamsAtEnd, Cond.selects RX2 yX2_teamsAtEnd yX2_teamsAtEnd, Cond.code yX2_teamsAtEnd cX2_teamsAtEnd 6 (some .int), Cond.fieldLink RX2 18 "SledgeRace" "teams" "[LSledgeRace$Team;", Cond.methodLink RX2 215 yX0_isAtEnd, Cond.instanceMethod yX0_isAtEnd, Cond.selects RX0 yX0_isAtEnd yX0_isAtEnd, Cond.initialized RX0, Cond.code yX0_isAtEnd cX0_isAtEnd 1 (some .boolean), Cond.fieldLink RX0 71 "SledgeRace$Team" "endTick" "I"]
def wsX2_count_r2 : List Cond := [Cond.methodLink RX2 212 yX2_ropesBroken, Cond.instanceMethod yX2_ropesBroken, Cond.selects RX2 yX2_ropesBroken yX2_ropesBroken, Cond.code yX2_ropesBroken cX2_ropesBroken 6 (some .int)]
def wsX2_count : List Cond := .code yX2_count cX2_count 2 (some .int) :: ((wsX2_count_r1 ++ wsX2_count_r2) ++ wsX20 ++ wsX10 ++ wsX00 ++ (vx_atS RX2 126 "java/lang/IndexOutOfBoundsException" ["java/lang/RuntimeException", "java/lang/Exception"]).filter goodWord)
def wsX2_team_r1 : List Cond := [Cond.classLink RX2 122 "java/lang/IndexOutOfBoundsException", Cond.initialized "java/lang/IndexOutOfBoundsException", Cond.methodLink RX2 79 yX2_teamNumbered, Cond.instanceMethod yX2_teamNumbered, Cond.selects RX2 yX2_teamNumbered yX2_teamNumbered, Cond.initialized RX2, Cond.code yX2_teamNumbered cX2_teamNumbered 3 (some (.object "SledgeRace$Team")), Cond.fieldLink RX2 18 "SledgeRace" "teams" "[LSledgeRace$Team;", Cond.methodLink RX2 39 yX2_isOutside, Cond.static yX2_isOutside, Cond.code yX2_isOutside cX2_isOutside 3 (some .boolean), Cond.methodLink RX2 133 yX0_fact, Cond.instanceMethod yX0_fact, Cond.selects RX0 yX0_fact yX0_fact, Cond.initialized RX0, Cond.code yX0_fact cX0_fact 2 (some .int), Cond.fieldLink RX0 53 "SledgeRace$Team" "front" "I", Cond.fieldLink RX0 56 "SledgeRace$Team" "breath" "I", Cond.fieldLink RX0 59 "SledgeRace$Team" "rope" "I", Cond.fieldLink RX0 62 "SledgeRace$Team" "knotting" "I", Cond.fieldLink RX0 71 "SledgeRace$Team" "endTick" "I", Cond.fieldLink RX0 34 "SledgeRace$Team" "effort" "I", Cond.fieldLink RX0 37 "SledgeRace$Team" "gap" "I", Cond.fieldLink RX0 68 "SledgeRace$Team" "way" "I"]
def wsX2_team_r2 : List Cond := [Cond.methodLink RX0 119 yX0_rollersLying, Cond.instanceMethod yX0_rollersLying, Cond.selects RX0 yX0_rollersLying yX0_rollersLying, Cond.code yX0_rollersLying cX0_rollersLying 4 (some .int), Cond.fieldLink RX0 19 "SledgeRace$Team" "rollers" "I", Cond.fieldLink RX0 40 "SledgeRace$Team" "places" "[I", Cond.methodLink RX0 126 yX0_sideOf, Cond.instanceMethod yX0_sideOf, Cond.selects RX0 yX0_sideOf yX0_sideOf, Cond.code yX0_sideOf cX0_sideOf 2 (some .int), Cond.fieldLink RX0 13 "SledgeRace$Team" "length" "I"]
def wsX2_team : List Cond := .code yX2_team cX2_team 4 (some .int) :: ((wsX2_team_r1 ++ wsX2_team_r2) ++ wsX20 ++ wsX00 ++ (vx_atS RX2 126 "java/lang/IndexOutOfBoundsException" ["java/lang/RuntimeException", "java/lang/Exception"]).filter goodWord)
def wsX2_roller : List Cond := .code yX2_roller cX2_roller 5 (some .int) :: ([.classLink RX2 122 "java/lang/IndexOutOfBoundsException", .initialized "java/lang/IndexOutOfBoundsException", .classLink RX2 61 "java/lang/IllegalStateException", .initialized "java/lang/IllegalStateException", .methodLink RX2 79 yX2_teamNumbered, .instanceMethod yX2_teamNumbered, .selects RX2 yX2_teamNumbered yX2_teamNumbered, .initialized RX2, .code yX2_teamNumbered cX2_teamNumbered 3 (some (.object "SledgeRace$Team")), .fieldLink RX2 18 "SledgeRace" "teams" "[LSledgeRace$Team;"] ++ wsX00 ++ wsX20 ++ (vx_atS RX2 126 "java/lang/IndexOutOfBoundsException" ["java/lang/RuntimeException", "java/lang/Exception"]).filter goodWord ++ (vx_atS RX2 65 "java/lang/IllegalStateException" ["java/lang/RuntimeException", "java/lang/Exception"]).filter goodWord)
def wsX2_next_r1 : List Cond := [Cond.classLink RX2 122 "java/lang/IndexOutOfBoundsException", Cond.initialized "java/lang/IndexOutOfBoundsException", Cond.fieldLink RX2 10 "SledgeRace" "track" "LSledgeRace$Track;", Cond.methodLink RX2 79 yX2_teamNumbered, Cond.instanceMethod yX2_teamNumbered, Cond.selects RX2 yX2_teamNumbered yX2_teamNumbered, Cond.initialized RX2, Cond.code yX2_teamNumbered cX2_teamNumbered 3 (some (.object "SledgeRace$Team")), Cond.fieldLink RX2 18 "SledgeRace" "teams" "[LSledgeRace$Team;", Cond.methodLink RX2 39 yX2_isOutside, Cond.static yX2_isOutside, Cond.code yX2_isOutside cX2_isOutside 3 (some .boolean), Cond.methodLink RX2 149 yX0_pull, Cond.instanceMethod yX0_pull, Cond.selects RX0 yX0_pull yX0_pull, Cond.initialized RX0, Cond.code yX0_pull cX0_pull 1 (some .int), Cond.fieldLink RX0 22 "SledgeRace$Team" "pullers" "I", Cond.fieldLink RX0 25 "SledgeRace$Team" "strength" "I", Cond.fieldLink RX0 34 "SledgeRace$Team" "effort" "I", Cond.fieldLink RX0 56 "SledgeRace$Team" "breath" "I", Cond.methodLink RX2 152 yX0_drag, Cond.instanceMethod yX0_drag, Cond.selects RX0 yX0_drag yX0_drag]
def wsX2_next_r2 : List Cond := [Cond.code yX0_drag cX0_drag 8 (some .int), Cond.fieldLink RX0 53 "SledgeRace$Team" "front" "I", Cond.fieldLink RX0 16 "SledgeRace$Team" "weight" "I", Cond.methodLink RX0 110 Lib.Math.max.name, Cond.static Lib.Math.max.name, Cond.initialized "java/lang/Math", Cond.code Lib.Math.max.name Lib.Math.max.code 2 (some .int), Cond.methodLink RX0 123 Lib.Math.min.name, Cond.static Lib.Math.min.name, Cond.code Lib.Math.min.name Lib.Math.min.code 2 (some .int), Cond.methodLink RX0 115 yX1_groundAt, Cond.instanceMethod yX1_groundAt, Cond.selects RX1 yX1_groundAt yX1_groundAt, Cond.initialized RX1, Cond.code yX1_groundAt cX1_groundAt 8 (some .int), Cond.fieldLink RX1 16 "SledgeRace$Track" "softnesses" "[I", Cond.fieldLink RX1 13 "SledgeRace$Track" "slopes" "[I", Cond.methodLink RX1 26 Lib.Math.max.name, Cond.fieldLink RX1 19 "SledgeRace$Track" "stretches" "I", Cond.fieldLink RX1 9 "SledgeRace$Track" "starts" "[I", Cond.methodLink RX0 119 yX0_rollersLying, Cond.instanceMethod yX0_rollersLying, Cond.selects RX0 yX0_rollersLying yX0_rollersLying, Cond.code yX0_rollersLying cX0_rollersLying 4 (some .int)]
def wsX2_next_r3 : List Cond := [Cond.fieldLink RX0 19 "SledgeRace$Team" "rollers" "I", Cond.fieldLink RX0 40 "SledgeRace$Team" "places" "[I", Cond.methodLink RX0 126 yX0_sideOf, Cond.instanceMethod yX0_sideOf, Cond.selects RX0 yX0_sideOf yX0_sideOf, Cond.code yX0_sideOf cX0_sideOf 2 (some .int), Cond.fieldLink RX0 13 "SledgeRace$Team" "length" "I", Cond.methodLink RX2 156 yX0_wayWith, Cond.instanceMethod yX0_wayWith, Cond.selects RX0 yX0_wayWith yX0_wayWith, Cond.code yX0_wayWith cX0_wayWith 3 (some .int)]
def wsX2_next : List Cond := .code yX2_next cX2_next 4 (some .int) :: ((wsX2_next_r1 ++ (wsX2_next_r2 ++ wsX2_next_r3)) ++ wsX20 ++ wsX00 ++ wsX10 ++ (vx_atS RX2 126 "java/lang/IndexOutOfBoundsException" ["java/lang/RuntimeException", "java/lang/Exception"]).filter goodWord)
def wsX2_rankOf : List Cond := .code yX2_rankOf cX2_rankOf 7 (some .int) :: ([.fieldLink RX2 18 "SledgeRace" "teams" "[LSledgeRace$Team;", .methodLink RX2 201 yX0_isAheadOf, .instanceMethod yX0_isAheadOf, .selects RX0 yX0_isAheadOf yX0_isAheadOf, .initialized RX0, .code yX0_isAheadOf cX0_isAheadOf 2 (some .boolean), .fieldLink RX0 71 "SledgeRace$Team" "endTick" "I", .fieldLink RX0 53 "SledgeRace$Team" "front" "I", .fieldLink RX0 7 "SledgeRace$Team" "number" "I", .methodLink RX0 78 yX0_isAtEnd, .instanceMethod yX0_isAtEnd, .selects RX0 yX0_isAtEnd yX0_isAtEnd, .code yX0_isAtEnd cX0_isAtEnd 1 (some .boolean)] ++ wsX20 ++ wsX00)
def wsX2_teamAtRank : List Cond := .code yX2_teamAtRank cX2_teamAtRank 6 (some .int) :: ([.fieldLink RX2 18 "SledgeRace" "teams" "[LSledgeRace$Team;", .methodLink RX2 205 yX2_rankOf, .instanceMethod yX2_rankOf, .selects RX2 yX2_rankOf yX2_rankOf, .initialized RX2, .code yX2_rankOf cX2_rankOf 7 (some .int), .methodLink RX2 201 yX0_isAheadOf, .instanceMethod yX0_isAheadOf, .selects RX0 yX0_isAheadOf yX0_isAheadOf, .initialized RX0, .code yX0_isAheadOf cX0_isAheadOf 2 (some .boolean), .fieldLink RX0 71 "SledgeRace$Team" "endTick" "I", .fieldLink RX0 53 "SledgeRace$Team" "front" "I", .fieldLink RX0 7 "SledgeRace$Team" "number" "I", .methodLink RX0 78 yX0_isAtEnd, .instanceMethod yX0_isAtEnd, .selects RX0 yX0_isAtEnd yX0_isAtEnd, .code yX0_isAtEnd cX0_isAtEnd 1 (some .boolean)] ++ wsX20 ++ wsX00)
def wsX2_ranked_r1 : List Cond := [Cond.classLink RX2 122 "java/lang/IndexOutOfBoundsException", Cond.initialized "java/lang/IndexOutOfBoundsException", Cond.fieldLink RX2 32 "SledgeRace" "teamCount" "I", Cond.methodLink RX2 162 yX2_teamAtRank, Cond.instanceMethod yX2_teamAtRank, Cond.selects RX2 yX2_teamAtRank yX2_teamAtRank, Cond.initialized RX2, Cond.code yX2_teamAtRank cX2_teamAtRank 6 (some .int), Cond.fieldLink RX2 18 "SledgeRace" "teams" "[LSledgeRace$Team;", Cond.methodLink RX2 205 yX2_rankOf, Cond.instanceMethod yX2_rankOf, Cond.selects RX2 yX2_rankOf yX2_rankOf, Cond.code yX2_rankOf cX2_rankOf 7 (some .int), Cond.methodLink RX2 201 yX0_isAheadOf, Cond.instanceMethod yX0_isAheadOf, Cond.selects RX0 yX0_isAheadOf yX0_isAheadOf, Cond.initialized RX0, Cond.code yX0_isAheadOf cX0_isAheadOf 2 (some .boolean), Cond.fieldLink RX0 71 "SledgeRace$Team" "endTick" "I", Cond.fieldLink RX0 53 "SledgeRace$Team" "front" "I", Cond.fieldLink RX0 7 "SledgeRace$Team" "number" "I", Cond.methodLink RX0 78 yX0_isAtEnd, Cond.instanceMethod yX0_isAtEnd, Cond.selects RX0 yX0_isAtEnd yX0_isAtEnd]
def wsX2_ranked_r2 : List Cond := [Cond.code yX0_isAtEnd cX0_isAtEnd 1 (some .boolean)]
def wsX2_ranked : List Cond := .code yX2_ranked cX2_ranked 2 (some .int) :: ((wsX2_ranked_r1 ++ wsX2_ranked_r2) ++ wsX20 ++ wsX00 ++ (vx_atS RX2 126 "java/lang/IndexOutOfBoundsException" ["java/lang/RuntimeException", "java/lang/Exception"]).filter goodWord)
def wsX2_lookAhead_r1 : List Cond := [Cond.fieldLink RX2 36 "SledgeRace" "tick" "I", Cond.fieldLink RX2 10 "SledgeRace" "track" "LSledgeRace$Track;", Cond.methodLink RX2 197 yX0_copyFrom, Cond.instanceMethod yX0_copyFrom, Cond.selects RX0 yX0_copyFrom yX0_copyFrom, Cond.initialized RX0, Cond.code yX0_copyFrom cX0_copyFrom 2 none, Cond.fieldLink RX0 7 "SledgeRace$Team" "number" "I", Cond.fieldLink RX0 13 "SledgeRace$Team" "length" "I", Cond.fieldLink RX0 16 "SledgeRace$Team" "weight" "I", Cond.fieldLink RX0 19 "SledgeRace$Team" "rollers" "I", Cond.fieldLink RX0 22 "SledgeRace$Team" "pullers" "I", Cond.fieldLink RX0 25 "SledgeRace$Team" "strength" "I", Cond.fieldLink RX0 28 "SledgeRace$Team" "runners" "I", Cond.fieldLink RX0 31 "SledgeRace$Team" "wholeRope" "I", Cond.fieldLink RX0 34 "SledgeRace$Team" "effort" "I", Cond.fieldLink RX0 37 "SledgeRace$Team" "gap" "I", Cond.fieldLink RX0 53 "SledgeRace$Team" "front" "I", Cond.fieldLink RX0 56 "SledgeRace$Team" "breath" "I", Cond.fieldLink RX0 59 "SledgeRace$Team" "rope" "I", Cond.fieldLink RX0 62 "SledgeRace$Team" "knotting" "I", Cond.fieldLink RX0 65 "SledgeRace$Team" "breaks" "I", Cond.fieldLink RX0 68 "SledgeRace$Team" "way" "I", Cond.fieldLink RX0 71 "SledgeRace$Team" "endTick" "I"]
def wsX2_lookAhead_r2 : List Cond := [Cond.fieldLink RX0 40 "SledgeRace$Team" "places" "[I", Cond.fieldLink RX0 44 "SledgeRace$Team" "loads" "[I", Cond.fieldLink RX0 47 "SledgeRace$Team" "ticksToGo" "[I", Cond.methodLink RX0 74 yX0_copyRow, Cond.static yX0_copyRow, Cond.code yX0_copyRow cX0_copyRow 3 none, Cond.methodLink RX2 194 yX0_passTick, Cond.instanceMethod yX0_passTick, Cond.selects RX0 yX0_passTick yX0_passTick, Cond.code yX0_passTick cX0_passTick 4 none, Cond.methodLink RX0 78 yX0_isAtEnd, Cond.instanceMethod yX0_isAtEnd, Cond.selects RX0 yX0_isAtEnd yX0_isAtEnd, Cond.code yX0_isAtEnd cX0_isAtEnd 1 (some .boolean), Cond.methodLink RX0 82 yX0_pull, Cond.instanceMethod yX0_pull, Cond.selects RX0 yX0_pull yX0_pull, Cond.code yX0_pull cX0_pull 1 (some .int), Cond.methodLink RX0 86 yX0_breakRope, Cond.instanceMethod yX0_breakRope, Cond.selects RX0 yX0_breakRope yX0_breakRope, Cond.code yX0_breakRope cX0_breakRope 1 none, Cond.methodLink RX0 110 Lib.Math.max.name, Cond.static Lib.Math.max.name]
def wsX2_lookAhead_r3 : List Cond := [Cond.initialized "java/lang/Math", Cond.code Lib.Math.max.name Lib.Math.max.code 2 (some .int), Cond.methodLink RX0 89 yX0_breathe, Cond.instanceMethod yX0_breathe, Cond.selects RX0 yX0_breathe yX0_breathe, Cond.code yX0_breathe cX0_breathe 3 none, Cond.methodLink RX0 123 Lib.Math.min.name, Cond.static Lib.Math.min.name, Cond.code Lib.Math.min.name Lib.Math.min.code 2 (some .int), Cond.methodLink RX0 93 yX0_drag, Cond.instanceMethod yX0_drag, Cond.selects RX0 yX0_drag yX0_drag, Cond.code yX0_drag cX0_drag 8 (some .int), Cond.methodLink RX0 115 yX1_groundAt, Cond.instanceMethod yX1_groundAt, Cond.selects RX1 yX1_groundAt yX1_groundAt, Cond.initialized RX1, Cond.code yX1_groundAt cX1_groundAt 8 (some .int), Cond.fieldLink RX1 16 "SledgeRace$Track" "softnesses" "[I", Cond.fieldLink RX1 13 "SledgeRace$Track" "slopes" "[I", Cond.methodLink RX1 26 Lib.Math.max.name, Cond.fieldLink RX1 19 "SledgeRace$Track" "stretches" "I", Cond.fieldLink RX1 9 "SledgeRace$Track" "starts" "[I", Cond.methodLink RX0 119 yX0_rollersLying]
def wsX2_lookAhead_r4 : List Cond := [Cond.instanceMethod yX0_rollersLying, Cond.selects RX0 yX0_rollersLying yX0_rollersLying, Cond.code yX0_rollersLying cX0_rollersLying 4 (some .int), Cond.methodLink RX0 126 yX0_sideOf, Cond.instanceMethod yX0_sideOf, Cond.selects RX0 yX0_sideOf yX0_sideOf, Cond.code yX0_sideOf cX0_sideOf 2 (some .int), Cond.methodLink RX0 97 yX0_wayWith, Cond.instanceMethod yX0_wayWith, Cond.selects RX0 yX0_wayWith yX0_wayWith, Cond.code yX0_wayWith cX0_wayWith 3 (some .int), Cond.methodLink RX0 101 yX0_moveOn, Cond.instanceMethod yX0_moveOn, Cond.selects RX0 yX0_moveOn yX0_moveOn, Cond.code yX0_moveOn cX0_moveOn 2 none, Cond.methodLink RX0 104 yX0_sendRunners, Cond.instanceMethod yX0_sendRunners, Cond.selects RX0 yX0_sendRunners yX0_sendRunners, Cond.code yX0_sendRunners cX0_sendRunners 4 none, Cond.methodLink RX0 129 yX0_lastBehind, Cond.instanceMethod yX0_lastBehind, Cond.selects RX0 yX0_lastBehind yX0_lastBehind, Cond.code yX0_lastBehind cX0_lastBehind 4 (some .int)]
def wsX2_lookAhead : List Cond := .code yX2_lookAhead cX2_lookAhead 6 none :: ((wsX2_lookAhead_r1 ++ (wsX2_lookAhead_r2 ++ (wsX2_lookAhead_r3 ++ wsX2_lookAhead_r4))) ++ wsX00 ++ wsX20 ++ wsX10)
def wsX2_rankOfTrialAmongRivals_r1 : List Cond := [Cond.fieldLink RX2 18 "SledgeRace" "teams" "[LSledgeRace$Team;", Cond.fieldLink RX2 29 "SledgeRace" "rival" "LSledgeRace$Team;", Cond.fieldLink RX2 25 "SledgeRace" "trial" "LSledgeRace$Team;", Cond.methodLink RX2 167 yX2_lookAhead, Cond.instanceMethod yX2_lookAhead, Cond.selects RX2 yX2_lookAhead yX2_lookAhead, Cond.initialized RX2, Cond.code yX2_lookAhead cX2_lookAhead 6 none, Cond.fieldLink RX2 36 "SledgeRace" "tick" "I", Cond.fieldLink RX2 10 "SledgeRace" "track" "LSledgeRace$Track;", Cond.methodLink RX2 197 yX0_copyFrom, Cond.instanceMethod yX0_copyFrom, Cond.selects RX0 yX0_copyFrom yX0_copyFrom, Cond.initialized RX0, Cond.code yX0_copyFrom cX0_copyFrom 2 none, Cond.fieldLink RX0 7 "SledgeRace$Team" "number" "I", Cond.fieldLink RX0 13 "SledgeRace$Team" "length" "I", Cond.fieldLink RX0 16 "SledgeRace$Team" "weight" "I", Cond.fieldLink RX0 19 "SledgeRace$Team" "rollers" "I", Cond.fieldLink RX0 22 "SledgeRace$Team" "pullers" "I", Cond.fieldLink RX0 25 "SledgeRace$Team" "strength" "I", Cond.fieldLink RX0 28 "SledgeRace$Team" "runners" "I", Cond.fieldLink RX0 31 "SledgeRace$Team" "wholeRope" "I", Cond.fieldLink RX0 34 "SledgeRace$Team" "effort" "I"]
def wsX2_rankOfTrialAmongRivals_r2 : List Cond := [Cond.fieldLink RX0 37 "SledgeRace$Team" "gap" "I", Cond.fieldLink RX0 53 "SledgeRace$Team" "front" "I", Cond.fieldLink RX0 56 "SledgeRace$Team" "breath" "I", Cond.fieldLink RX0 59 "SledgeRace$Team" "rope" "I", Cond.fieldLink RX0 62 "SledgeRace$Team" "knotting" "I", Cond.fieldLink RX0 65 "SledgeRace$Team" "breaks" "I", Cond.fieldLink RX0 68 "SledgeRace$Team" "way" "I", Cond.fieldLink RX0 71 "SledgeRace$Team" "endTick" "I", Cond.fieldLink RX0 40 "SledgeRace$Team" "places" "[I", Cond.fieldLink RX0 44 "SledgeRace$Team" "loads" "[I", Cond.fieldLink RX0 47 "SledgeRace$Team" "ticksToGo" "[I", Cond.methodLink RX0 74 yX0_copyRow, Cond.static yX0_copyRow, Cond.code yX0_copyRow cX0_copyRow 3 none, Cond.methodLink RX2 194 yX0_passTick, Cond.instanceMethod yX0_passTick, Cond.selects RX0 yX0_passTick yX0_passTick, Cond.code yX0_passTick cX0_passTick 4 none, Cond.methodLink RX0 78 yX0_isAtEnd, Cond.instanceMethod yX0_isAtEnd, Cond.selects RX0 yX0_isAtEnd yX0_isAtEnd, Cond.code yX0_isAtEnd cX0_isAtEnd 1 (some .boolean), Cond.methodLink RX0 82 yX0_pull, Cond.instanceMethod yX0_pull]
def wsX2_rankOfTrialAmongRivals_r3 : List Cond := [Cond.selects RX0 yX0_pull yX0_pull, Cond.code yX0_pull cX0_pull 1 (some .int), Cond.methodLink RX0 86 yX0_breakRope, Cond.instanceMethod yX0_breakRope, Cond.selects RX0 yX0_breakRope yX0_breakRope, Cond.code yX0_breakRope cX0_breakRope 1 none, Cond.methodLink RX0 110 Lib.Math.max.name, Cond.static Lib.Math.max.name, Cond.initialized "java/lang/Math", Cond.code Lib.Math.max.name Lib.Math.max.code 2 (some .int), Cond.methodLink RX0 89 yX0_breathe, Cond.instanceMethod yX0_breathe, Cond.selects RX0 yX0_breathe yX0_breathe, Cond.code yX0_breathe cX0_breathe 3 none, Cond.methodLink RX0 123 Lib.Math.min.name, Cond.static Lib.Math.min.name, Cond.code Lib.Math.min.name Lib.Math.min.code 2 (some .int), Cond.methodLink RX0 93 yX0_drag, Cond.instanceMethod yX0_drag, Cond.selects RX0 yX0_drag yX0_drag, Cond.code yX0_drag cX0_drag 8 (some .int), Cond.methodLink RX0 115 yX1_groundAt, Cond.instanceMethod yX1_groundAt, Cond.selects RX1 yX1_groundAt yX1_groundAt]
def wsX2_rankOfTrialAmongRivals_r4 : List Cond := [Cond.initialized RX1, Cond.code yX1_groundAt cX1_groundAt 8 (some .int), Cond.fieldLink RX1 16 "SledgeRace$Track" "softnesses" "[I", Cond.fieldLink RX1 13 "SledgeRace$Track" "slopes" "[I", Cond.methodLink RX1 26 Lib.Math.max.name, Cond.fieldLink RX1 19 "SledgeRace$Track" "stretches" "I", Cond.fieldLink RX1 9 "SledgeRace$Track" "starts" "[I", Cond.methodLink RX0 119 yX0_rollersLying, Cond.instanceMethod yX0_rollersLying, Cond.selects RX0 yX0_rollersLying yX0_rollersLying, Cond.code yX0_rollersLying cX0_rollersLying 4 (some .int), Cond.methodLink RX0 126 yX0_sideOf, Cond.instanceMethod yX0_sideOf, Cond.selects RX0 yX0_sideOf yX0_sideOf, Cond.code yX0_sideOf cX0_sideOf 2 (some .int), Cond.methodLink RX0 97 yX0_wayWith, Cond.instanceMethod yX0_wayWith, Cond.selects RX0 yX0_wayWith yX0_wayWith, Cond.code yX0_wayWith cX0_wayWith 3 (some .int), Cond.methodLink RX0 101 yX0_moveOn, Cond.instanceMethod yX0_moveOn, Cond.selects RX0 yX0_moveOn yX0_moveOn, Cond.code yX0_moveOn cX0_moveOn 2 none, Cond.methodLink RX0 104 yX0_sendRunners]
def wsX2_rankOfTrialAmongRivals_r5 : List Cond := [Cond.instanceMethod yX0_sendRunners, Cond.selects RX0 yX0_sendRunners yX0_sendRunners, Cond.code yX0_sendRunners cX0_sendRunners 4 none, Cond.methodLink RX0 129 yX0_lastBehind, Cond.instanceMethod yX0_lastBehind, Cond.selects RX0 yX0_lastBehind yX0_lastBehind, Cond.code yX0_lastBehind cX0_lastBehind 4 (some .int), Cond.methodLink RX2 201 yX0_isAheadOf, Cond.instanceMethod yX0_isAheadOf, Cond.selects RX0 yX0_isAheadOf yX0_isAheadOf, Cond.code yX0_isAheadOf cX0_isAheadOf 2 (some .boolean)]
def wsX2_rankOfTrialAmongRivals : List Cond := .code yX2_rankOfTrialAmongRivals cX2_rankOfTrialAmongRivals 7 (some .int) :: ((wsX2_rankOfTrialAmongRivals_r1 ++ (wsX2_rankOfTrialAmongRivals_r2 ++ (wsX2_rankOfTrialAmongRivals_r3 ++ (wsX2_rankOfTrialAmongRivals_r4 ++ wsX2_rankOfTrialAmongRivals_r5)))) ++ wsX20 ++ wsX00 ++ wsX10)
def wsX2_foresee_r1 : List Cond := [Cond.classLink RX2 122 "java/lang/IndexOutOfBoundsException", Cond.initialized "java/lang/IndexOutOfBoundsException", Cond.classLink RX2 43 "java/lang/IllegalArgumentException", Cond.initialized "java/lang/IllegalArgumentException", Cond.fieldLink RX2 25 "SledgeRace" "trial" "LSledgeRace$Team;", Cond.methodLink RX2 79 yX2_teamNumbered, Cond.instanceMethod yX2_teamNumbered, Cond.selects RX2 yX2_teamNumbered yX2_teamNumbered, Cond.initialized RX2, Cond.code yX2_teamNumbered cX2_teamNumbered 3 (some (.object "SledgeRace$Team")), Cond.fieldLink RX2 18 "SledgeRace" "teams" "[LSledgeRace$Team;", Cond.methodLink RX2 39 yX2_isOutside, Cond.static yX2_isOutside, Cond.code yX2_isOutside cX2_isOutside 3 (some .boolean), Cond.methodLink RX2 167 yX2_lookAhead, Cond.instanceMethod yX2_lookAhead, Cond.selects RX2 yX2_lookAhead yX2_lookAhead, Cond.code yX2_lookAhead cX2_lookAhead 6 none, Cond.fieldLink RX2 36 "SledgeRace" "tick" "I", Cond.fieldLink RX2 10 "SledgeRace" "track" "LSledgeRace$Track;", Cond.methodLink RX2 197 yX0_copyFrom, Cond.instanceMethod yX0_copyFrom, Cond.selects RX0 yX0_copyFrom yX0_copyFrom, Cond.initialized RX0]
def wsX2_foresee_r2 : List Cond := [Cond.code yX0_copyFrom cX0_copyFrom 2 none, Cond.fieldLink RX0 7 "SledgeRace$Team" "number" "I", Cond.fieldLink RX0 13 "SledgeRace$Team" "length" "I", Cond.fieldLink RX0 16 "SledgeRace$Team" "weight" "I", Cond.fieldLink RX0 19 "SledgeRace$Team" "rollers" "I", Cond.fieldLink RX0 22 "SledgeRace$Team" "pullers" "I", Cond.fieldLink RX0 25 "SledgeRace$Team" "strength" "I", Cond.fieldLink RX0 28 "SledgeRace$Team" "runners" "I", Cond.fieldLink RX0 31 "SledgeRace$Team" "wholeRope" "I", Cond.fieldLink RX0 34 "SledgeRace$Team" "effort" "I", Cond.fieldLink RX0 37 "SledgeRace$Team" "gap" "I", Cond.fieldLink RX0 53 "SledgeRace$Team" "front" "I", Cond.fieldLink RX0 56 "SledgeRace$Team" "breath" "I", Cond.fieldLink RX0 59 "SledgeRace$Team" "rope" "I", Cond.fieldLink RX0 62 "SledgeRace$Team" "knotting" "I", Cond.fieldLink RX0 65 "SledgeRace$Team" "breaks" "I", Cond.fieldLink RX0 68 "SledgeRace$Team" "way" "I", Cond.fieldLink RX0 71 "SledgeRace$Team" "endTick" "I", Cond.fieldLink RX0 40 "SledgeRace$Team" "places" "[I", Cond.fieldLink RX0 44 "SledgeRace$Team" "loads" "[I", Cond.fieldLink RX0 47 "SledgeRace$Team" "ticksToGo" "[I", Cond.methodLink RX0 74 yX0_copyRow, Cond.static yX0_copyRow, Cond.code yX0_copyRow cX0_copyRow 3 none]
def wsX2_foresee_r3 : List Cond := [Cond.methodLink RX2 194 yX0_passTick, Cond.instanceMethod yX0_passTick, Cond.selects RX0 yX0_passTick yX0_passTick, Cond.code yX0_passTick cX0_passTick 4 none, Cond.methodLink RX0 78 yX0_isAtEnd, Cond.instanceMethod yX0_isAtEnd, Cond.selects RX0 yX0_isAtEnd yX0_isAtEnd, Cond.code yX0_isAtEnd cX0_isAtEnd 1 (some .boolean), Cond.methodLink RX0 82 yX0_pull, Cond.instanceMethod yX0_pull, Cond.selects RX0 yX0_pull yX0_pull, Cond.code yX0_pull cX0_pull 1 (some .int), Cond.methodLink RX0 86 yX0_breakRope, Cond.instanceMethod yX0_breakRope, Cond.selects RX0 yX0_breakRope yX0_breakRope, Cond.code yX0_breakRope cX0_breakRope 1 none, Cond.methodLink RX0 110 Lib.Math.max.name, Cond.static Lib.Math.max.name, Cond.initialized "java/lang/Math", Cond.code Lib.Math.max.name Lib.Math.max.code 2 (some .int), Cond.methodLink RX0 89 yX0_breathe, Cond.instanceMethod yX0_breathe, Cond.selects RX0 yX0_breathe yX0_breathe, Cond.code yX0_breathe cX0_breathe 3 none]
def wsX2_foresee_r4 : List Cond := [Cond.methodLink RX0 123 Lib.Math.min.name, Cond.static Lib.Math.min.name, Cond.code Lib.Math.min.name Lib.Math.min.code 2 (some .int), Cond.methodLink RX0 93 yX0_drag, Cond.instanceMethod yX0_drag, Cond.selects RX0 yX0_drag yX0_drag, Cond.code yX0_drag cX0_drag 8 (some .int), Cond.methodLink RX0 115 yX1_groundAt, Cond.instanceMethod yX1_groundAt, Cond.selects RX1 yX1_groundAt yX1_groundAt, Cond.initialized RX1, Cond.code yX1_groundAt cX1_groundAt 8 (some .int), Cond.fieldLink RX1 16 "SledgeRace$Track" "softnesses" "[I", Cond.fieldLink RX1 13 "SledgeRace$Track" "slopes" "[I", Cond.methodLink RX1 26 Lib.Math.max.name, Cond.fieldLink RX1 19 "SledgeRace$Track" "stretches" "I", Cond.fieldLink RX1 9 "SledgeRace$Track" "starts" "[I", Cond.methodLink RX0 119 yX0_rollersLying, Cond.instanceMethod yX0_rollersLying, Cond.selects RX0 yX0_rollersLying yX0_rollersLying, Cond.code yX0_rollersLying cX0_rollersLying 4 (some .int), Cond.methodLink RX0 126 yX0_sideOf, Cond.instanceMethod yX0_sideOf, Cond.selects RX0 yX0_sideOf yX0_sideOf]
def wsX2_foresee_r5 : List Cond := [Cond.code yX0_sideOf cX0_sideOf 2 (some .int), Cond.methodLink RX0 97 yX0_wayWith, Cond.instanceMethod yX0_wayWith, Cond.selects RX0 yX0_wayWith yX0_wayWith, Cond.code yX0_wayWith cX0_wayWith 3 (some .int), Cond.methodLink RX0 101 yX0_moveOn, Cond.instanceMethod yX0_moveOn, Cond.selects RX0 yX0_moveOn yX0_moveOn, Cond.code yX0_moveOn cX0_moveOn 2 none, Cond.methodLink RX0 104 yX0_sendRunners, Cond.instanceMethod yX0_sendRunners, Cond.selects RX0 yX0_sendRunners yX0_sendRunners, Cond.code yX0_sendRunners cX0_sendRunners 4 none, Cond.methodLink RX0 129 yX0_lastBehind, Cond.instanceMethod yX0_lastBehind, Cond.selects RX0 yX0_lastBehind yX0_lastBehind, Cond.code yX0_lastBehind cX0_lastBehind 4 (some .int), Cond.methodLink RX2 174 yX2_rankOfTrialAmongRivals, Cond.instanceMethod yX2_rankOfTrialAmongRivals, Cond.selects RX2 yX2_rankOfTrialAmongRivals yX2_rankOfTrialAmongRivals, Cond.code yX2_rankOfTrialAmongRivals cX2_rankOfTrialAmongRivals 7 (some .int), Cond.fieldLink RX2 29 "SledgeRace" "rival" "LSledgeRace$Team;", Cond.methodLink RX2 201 yX0_isAheadOf, Cond.instanceMethod yX0_isAheadOf]
def wsX2_foresee_r6 : List Cond := [Cond.selects RX0 yX0_isAheadOf yX0_isAheadOf, Cond.code yX0_isAheadOf cX0_isAheadOf 2 (some .boolean)]
def wsX2_foresee : List Cond := .code yX2_foresee cX2_foresee 5 (some .int) :: ((wsX2_foresee_r1 ++ (wsX2_foresee_r2 ++ (wsX2_foresee_r3 ++ (wsX2_foresee_r4 ++ (wsX2_foresee_r5 ++ wsX2_foresee_r6))))) ++ wsX20 ++ wsX00 ++ wsX10 ++ (vx_atS RX2 126 "java/lang/IndexOutOfBoundsException" ["java/lang/RuntimeException", "java/lang/Exception"]).filter goodWord ++ (vx_atS RX2 47 "java/lang/IllegalArgumentException" ["java/lang/RuntimeException", "java/lang/Exception"]).filter goodWord)
def wsX2_advise_r1 : List Cond := [Cond.classLink RX2 43 "java/lang/IllegalArgumentException", Cond.initialized "java/lang/IllegalArgumentException", Cond.fieldLink RX2 25 "SledgeRace" "trial" "LSledgeRace$Team;", Cond.methodLink RX2 79 yX2_teamNumbered, Cond.instanceMethod yX2_teamNumbered, Cond.selects RX2 yX2_teamNumbered yX2_teamNumbered, Cond.initialized RX2, Cond.code yX2_teamNumbered cX2_teamNumbered 3 (some (.object "SledgeRace$Team")), Cond.classLink RX2 122 "java/lang/IndexOutOfBoundsException", Cond.initialized "java/lang/IndexOutOfBoundsException", Cond.fieldLink RX2 18 "SledgeRace" "teams" "[LSledgeRace$Team;", Cond.methodLink RX2 39 yX2_isOutside, Cond.static yX2_isOutside, Cond.code yX2_isOutside cX2_isOutside 3 (some .boolean), Cond.methodLink RX2 167 yX2_lookAhead, Cond.instanceMethod yX2_lookAhead, Cond.selects RX2 yX2_lookAhead yX2_lookAhead, Cond.code yX2_lookAhead cX2_lookAhead 6 none, Cond.fieldLink RX2 36 "SledgeRace" "tick" "I", Cond.fieldLink RX2 10 "SledgeRace" "track" "LSledgeRace$Track;", Cond.methodLink RX2 197 yX0_copyFrom, Cond.instanceMethod yX0_copyFrom, Cond.selects RX0 yX0_copyFrom yX0_copyFrom, Cond.initialized RX0]
def wsX2_advise_r2 : List Cond := [Cond.code yX0_copyFrom cX0_copyFrom 2 none, Cond.fieldLink RX0 7 "SledgeRace$Team" "number" "I", Cond.fieldLink RX0 13 "SledgeRace$Team" "length" "I", Cond.fieldLink RX0 16 "SledgeRace$Team" "weight" "I", Cond.fieldLink RX0 19 "SledgeRace$Team" "rollers" "I", Cond.fieldLink RX0 22 "SledgeRace$Team" "pullers" "I", Cond.fieldLink RX0 25 "SledgeRace$Team" "strength" "I", Cond.fieldLink RX0 28 "SledgeRace$Team" "runners" "I", Cond.fieldLink RX0 31 "SledgeRace$Team" "wholeRope" "I", Cond.fieldLink RX0 34 "SledgeRace$Team" "effort" "I", Cond.fieldLink RX0 37 "SledgeRace$Team" "gap" "I", Cond.fieldLink RX0 53 "SledgeRace$Team" "front" "I", Cond.fieldLink RX0 56 "SledgeRace$Team" "breath" "I", Cond.fieldLink RX0 59 "SledgeRace$Team" "rope" "I", Cond.fieldLink RX0 62 "SledgeRace$Team" "knotting" "I", Cond.fieldLink RX0 65 "SledgeRace$Team" "breaks" "I", Cond.fieldLink RX0 68 "SledgeRace$Team" "way" "I", Cond.fieldLink RX0 71 "SledgeRace$Team" "endTick" "I", Cond.fieldLink RX0 40 "SledgeRace$Team" "places" "[I", Cond.fieldLink RX0 44 "SledgeRace$Team" "loads" "[I", Cond.fieldLink RX0 47 "SledgeRace$Team" "ticksToGo" "[I", Cond.methodLink RX0 74 yX0_copyRow, Cond.static yX0_copyRow, Cond.code yX0_copyRow cX0_copyRow 3 none]
def wsX2_advise_r3 : List Cond := [Cond.methodLink RX2 194 yX0_passTick, Cond.instanceMethod yX0_passTick, Cond.selects RX0 yX0_passTick yX0_passTick, Cond.code yX0_passTick cX0_passTick 4 none, Cond.methodLink RX0 78 yX0_isAtEnd, Cond.instanceMethod yX0_isAtEnd, Cond.selects RX0 yX0_isAtEnd yX0_isAtEnd, Cond.code yX0_isAtEnd cX0_isAtEnd 1 (some .boolean), Cond.methodLink RX0 82 yX0_pull, Cond.instanceMethod yX0_pull, Cond.selects RX0 yX0_pull yX0_pull, Cond.code yX0_pull cX0_pull 1 (some .int), Cond.methodLink RX0 86 yX0_breakRope, Cond.instanceMethod yX0_breakRope, Cond.selects RX0 yX0_breakRope yX0_breakRope, Cond.code yX0_breakRope cX0_breakRope 1 none, Cond.methodLink RX0 110 Lib.Math.max.name, Cond.static Lib.Math.max.name, Cond.initialized "java/lang/Math", Cond.code Lib.Math.max.name Lib.Math.max.code 2 (some .int), Cond.methodLink RX0 89 yX0_breathe, Cond.instanceMethod yX0_breathe, Cond.selects RX0 yX0_breathe yX0_breathe, Cond.code yX0_breathe cX0_breathe 3 none]
def wsX2_advise_r4 : List Cond := [Cond.methodLink RX0 123 Lib.Math.min.name, Cond.static Lib.Math.min.name, Cond.code Lib.Math.min.name Lib.Math.min.code 2 (some .int), Cond.methodLink RX0 93 yX0_drag, Cond.instanceMethod yX0_drag, Cond.selects RX0 yX0_drag yX0_drag, Cond.code yX0_drag cX0_drag 8 (some .int), Cond.methodLink RX0 115 yX1_groundAt, Cond.instanceMethod yX1_groundAt, Cond.selects RX1 yX1_groundAt yX1_groundAt, Cond.initialized RX1, Cond.code yX1_groundAt cX1_groundAt 8 (some .int), Cond.fieldLink RX1 16 "SledgeRace$Track" "softnesses" "[I", Cond.fieldLink RX1 13 "SledgeRace$Track" "slopes" "[I", Cond.methodLink RX1 26 Lib.Math.max.name, Cond.fieldLink RX1 19 "SledgeRace$Track" "stretches" "I", Cond.fieldLink RX1 9 "SledgeRace$Track" "starts" "[I", Cond.methodLink RX0 119 yX0_rollersLying, Cond.instanceMethod yX0_rollersLying, Cond.selects RX0 yX0_rollersLying yX0_rollersLying, Cond.code yX0_rollersLying cX0_rollersLying 4 (some .int), Cond.methodLink RX0 126 yX0_sideOf, Cond.instanceMethod yX0_sideOf, Cond.selects RX0 yX0_sideOf yX0_sideOf]
def wsX2_advise_r5 : List Cond := [Cond.code yX0_sideOf cX0_sideOf 2 (some .int), Cond.methodLink RX0 97 yX0_wayWith, Cond.instanceMethod yX0_wayWith, Cond.selects RX0 yX0_wayWith yX0_wayWith, Cond.code yX0_wayWith cX0_wayWith 3 (some .int), Cond.methodLink RX0 101 yX0_moveOn, Cond.instanceMethod yX0_moveOn, Cond.selects RX0 yX0_moveOn yX0_moveOn, Cond.code yX0_moveOn cX0_moveOn 2 none, Cond.methodLink RX0 104 yX0_sendRunners, Cond.instanceMethod yX0_sendRunners, Cond.selects RX0 yX0_sendRunners yX0_sendRunners, Cond.code yX0_sendRunners cX0_sendRunners 4 none, Cond.methodLink RX0 129 yX0_lastBehind, Cond.instanceMethod yX0_lastBehind, Cond.selects RX0 yX0_lastBehind yX0_lastBehind, Cond.code yX0_lastBehind cX0_lastBehind 4 (some .int)]
def wsX2_advise : List Cond := .code yX2_advise cX2_advise 7 (some .int) :: ((wsX2_advise_r1 ++ (wsX2_advise_r2 ++ (wsX2_advise_r3 ++ (wsX2_advise_r4 ++ wsX2_advise_r5)))) ++ wsX20 ++ wsX00 ++ wsX10 ++ (vx_atS RX2 47 "java/lang/IllegalArgumentException" ["java/lang/RuntimeException", "java/lang/Exception"]).filter goodWord ++ (vx_atS RX2 126 "java/lang/IndexOutOfBoundsException" ["java/lang/RuntimeException", "java/lang/Exception"]).filter goodWord)
def wsX2_mean : List Cond := .code yX2_mean cX2_mean 6 (some .double) :: ([.fieldLink RX2 32 "SledgeRace" "teamCount" "I", .fieldLink RX2 18 "SledgeRace" "teams" "[LSledgeRace$Team;"] ++ wsX20 ++ wsX00)
def wsX2_digest_r1 : List Cond := [Cond.constantLong RX2 182 (461), Cond.constantLong RX2 184 (31), Cond.fieldLink RX2 18 "SledgeRace" "teams" "[LSledgeRace$Team;", Cond.fieldLink RX2 32 "SledgeRace" "teamCount" "I", Cond.methodLink RX2 127 yX2_countOf, Cond.instanceMethod yX2_countOf, Cond.selects RX2 yX2_countOf yX2_countOf, Cond.initialized RX2, Cond.code yX2_countOf cX2_countOf 2 (some .int), Cond.fieldLink RX2 36 "SledgeRace" "tick" "I", Cond.fieldLink RX2 10 "SledgeRace" "track" "LSledgeRace$Track;", Cond.methodLink RX2 115 yX2_teamsAtEnd, Cond.instanceMethod yX2_teamsAtEnd, Cond.selects RX2 yX2_teamsAtEnd yX2_teamsAtEnd, Cond.code yX2_teamsAtEnd cX2_teamsAtEnd 6 (some .int), Cond.methodLink RX2 215 yX0_isAtEnd, Cond.instanceMethod yX0_isAtEnd, Cond.selects RX0 yX0_isAtEnd yX0_isAtEnd, Cond.initialized RX0, Cond.code yX0_isAtEnd cX0_isAtEnd 1 (some .boolean), Cond.fieldLink RX0 71 "SledgeRace$Team" "endTick" "I", Cond.methodLink RX2 212 yX2_ropesBroken, Cond.instanceMethod yX2_ropesBroken, Cond.selects RX2 yX2_ropesBroken yX2_ropesBroken]
def wsX2_digest_r2 : List Cond := [Cond.code yX2_ropesBroken cX2_ropesBroken 6 (some .int), Cond.methodLink RX2 186 yX0_addTo, Cond.instanceMethod yX0_addTo, Cond.selects RX0 yX0_addTo yX0_addTo, Cond.code yX0_addTo cX0_addTo 6 (some .long), Cond.constantLong RX0 132 (31), Cond.fieldLink RX0 19 "SledgeRace$Team" "rollers" "I", Cond.fieldLink RX0 40 "SledgeRace$Team" "places" "[I", Cond.methodLink RX0 134 yX0_fact, Cond.instanceMethod yX0_fact, Cond.selects RX0 yX0_fact yX0_fact, Cond.code yX0_fact cX0_fact 2 (some .int), Cond.fieldLink RX0 53 "SledgeRace$Team" "front" "I", Cond.fieldLink RX0 56 "SledgeRace$Team" "breath" "I", Cond.fieldLink RX0 59 "SledgeRace$Team" "rope" "I", Cond.fieldLink RX0 62 "SledgeRace$Team" "knotting" "I", Cond.fieldLink RX0 34 "SledgeRace$Team" "effort" "I", Cond.fieldLink RX0 37 "SledgeRace$Team" "gap" "I", Cond.fieldLink RX0 68 "SledgeRace$Team" "way" "I", Cond.methodLink RX0 119 yX0_rollersLying, Cond.instanceMethod yX0_rollersLying, Cond.selects RX0 yX0_rollersLying yX0_rollersLying, Cond.code yX0_rollersLying cX0_rollersLying 4 (some .int), Cond.methodLink RX0 126 yX0_sideOf]
def wsX2_digest_r3 : List Cond := [Cond.instanceMethod yX0_sideOf, Cond.selects RX0 yX0_sideOf yX0_sideOf, Cond.code yX0_sideOf cX0_sideOf 2 (some .int), Cond.fieldLink RX0 13 "SledgeRace$Team" "length" "I", Cond.methodLink RX2 162 yX2_teamAtRank, Cond.instanceMethod yX2_teamAtRank, Cond.selects RX2 yX2_teamAtRank yX2_teamAtRank, Cond.code yX2_teamAtRank cX2_teamAtRank 6 (some .int), Cond.methodLink RX2 205 yX2_rankOf, Cond.instanceMethod yX2_rankOf, Cond.selects RX2 yX2_rankOf yX2_rankOf, Cond.code yX2_rankOf cX2_rankOf 7 (some .int), Cond.methodLink RX2 201 yX0_isAheadOf, Cond.instanceMethod yX0_isAheadOf, Cond.selects RX0 yX0_isAheadOf yX0_isAheadOf, Cond.code yX0_isAheadOf cX0_isAheadOf 2 (some .boolean), Cond.fieldLink RX0 7 "SledgeRace$Team" "number" "I", Cond.methodLink RX0 78 yX0_isAtEnd]
def wsX2_digest : List Cond := .code yX2_digest cX2_digest 7 (some .long) :: ((wsX2_digest_r1 ++ (wsX2_digest_r2 ++ wsX2_digest_r3)) ++ wsX20 ++ wsX10 ++ wsX00)
def wsX3_init : List Cond := .code yX3_init cX3_init 1 none :: ([.methodLink RX3 3 objectInit, .instanceMethod objectInit, .code objectInit ⟨#[0xb1]⟩ 1 none, .fieldLink RX3 9 "SledgeRaceModel" "length" "I", .fieldLink RX3 13 "SledgeRaceModel" "stretches" "I", .arrayClass .int, .fieldLink RX3 16 "SledgeRaceModel" "ground" "[I", .fieldLink RX3 20 "SledgeRaceModel" "table" "[I", .fieldLink RX3 23 "SledgeRaceModel" "spare" "[I"] ++ wsX30)
def wsX3_thrown : List Cond := .code yX3_thrown cX3_thrown 1 (some .int) :: ([.fieldLink RX3 26 "SledgeRaceModel" "thrown" "I"] ++ wsX30)
def wsX3_fail : List Cond := .code yX3_fail cX3_fail 2 (some .int) :: ([.fieldLink RX3 26 "SledgeRaceModel" "thrown" "I"] ++ wsX30)
def wsX3_isIn : List Cond := .code yX3_isIn cX3_isIn 3 (some .boolean) :: ([])
def wsX3_isTeam : List Cond := .code yX3_isTeam cX3_isTeam 2 (some .boolean) :: ([.fieldLink RX3 29 "SledgeRaceModel" "teams" "I", .methodLink RX3 32 yX3_isIn, .static yX3_isIn, .initialized RX3, .code yX3_isIn cX3_isIn 3 (some .boolean)] ++ wsX30)
def wsX3_get : List Cond := .code yX3_get cX3_get 3 (some .int) :: ([.fieldLink RX3 20 "SledgeRaceModel" "table" "[I"] ++ wsX30)
def wsX3_set : List Cond := .code yX3_set cX3_set 4 none :: ([.fieldLink RX3 20 "SledgeRaceModel" "table" "[I"] ++ wsX30)
def wsX3_setLength : List Cond := .code yX3_setLength cX3_setLength 3 (some .int) :: ([.fieldLink RX3 26 "SledgeRaceModel" "thrown" "I", .fieldLink RX3 40 "SledgeRaceModel" "tick" "I", .fieldLink RX3 9 "SledgeRaceModel" "length" "I", .methodLink RX3 32 yX3_isIn, .static yX3_isIn, .initialized RX3, .code yX3_isIn cX3_isIn 3 (some .boolean), .methodLink RX3 36 yX3_fail, .instanceMethod yX3_fail, .selects RX3 yX3_fail yX3_fail, .code yX3_fail cX3_fail 2 (some .int)] ++ wsX30)
def wsX3_stretchAt : List Cond := .code yX3_stretchAt cX3_stretchAt 3 (some .int) :: ([.fieldLink RX3 13 "SledgeRaceModel" "stretches" "I", .fieldLink RX3 16 "SledgeRaceModel" "ground" "[I"] ++ wsX30)
def wsX3_lay : List Cond := .code yX3_lay cX3_lay 7 (some .int) :: ([.fieldLink RX3 26 "SledgeRaceModel" "thrown" "I", .fieldLink RX3 16 "SledgeRaceModel" "ground" "[I", .fieldLink RX3 13 "SledgeRaceModel" "stretches" "I", .methodLink RX3 46 arraycopyName, .native arraycopyName, .static arraycopyName, .initialized "java/lang/System", .arrayClass .int, .methodLink RX3 32 yX3_isIn, .static yX3_isIn, .initialized RX3, .code yX3_isIn cX3_isIn 3 (some .boolean), .methodLink RX3 36 yX3_fail, .instanceMethod yX3_fail, .selects RX3 yX3_fail yX3_fail, .code yX3_fail cX3_fail 2 (some .int), .methodLink RX3 43 yX3_stretchAt, .instanceMethod yX3_stretchAt, .selects RX3 yX3_stretchAt yX3_stretchAt, .code yX3_stretchAt cX3_stretchAt 3 (some .int)] ++ wsX30)
def wsX3_ground : List Cond := .code yX3_ground cX3_ground 3 (some .int) :: ([.fieldLink RX3 26 "SledgeRaceModel" "thrown" "I", .fieldLink RX3 16 "SledgeRaceModel" "ground" "[I", .methodLink RX3 32 yX3_isIn, .static yX3_isIn, .initialized RX3, .code yX3_isIn cX3_isIn 3 (some .boolean), .methodLink RX3 43 yX3_stretchAt, .instanceMethod yX3_stretchAt, .selects RX3 yX3_stretchAt yX3_stretchAt, .code yX3_stretchAt cX3_stretchAt 3 (some .int), .fieldLink RX3 13 "SledgeRaceModel" "stretches" "I", .methodLink RX3 36 yX3_fail, .instanceMethod yX3_fail, .selects RX3 yX3_fail yX3_fail, .code yX3_fail cX3_fail 2 (some .int)] ++ wsX30)
def wsX3_begin : List Cond := .code yX3_begin cX3_begin 3 none :: ([.methodLink RX3 52 yX3_set, .instanceMethod yX3_set, .selects RX3 yX3_set yX3_set, .initialized RX3, .code yX3_set cX3_set 4 none, .fieldLink RX3 20 "SledgeRaceModel" "table" "[I", .methodLink RX3 56 yX3_get, .instanceMethod yX3_get, .selects RX3 yX3_get yX3_get, .code yX3_get cX3_get 3 (some .int)] ++ wsX30)
def wsX3_addTeam_r1 : List Cond := [Cond.fieldLink RX3 26 "SledgeRaceModel" "thrown" "I", Cond.fieldLink RX3 29 "SledgeRaceModel" "teams" "I", Cond.fieldLink RX3 40 "SledgeRaceModel" "tick" "I", Cond.arrayClass .int, Cond.fieldLink RX3 20 "SledgeRaceModel" "table" "[I", Cond.methodLink RX3 46 arraycopyName, Cond.native arraycopyName, Cond.static arraycopyName, Cond.initialized "java/lang/System", Cond.methodLink RX3 32 yX3_isIn, Cond.static yX3_isIn, Cond.initialized RX3, Cond.code yX3_isIn cX3_isIn 3 (some .boolean), Cond.methodLink RX3 36 yX3_fail, Cond.instanceMethod yX3_fail, Cond.selects RX3 yX3_fail yX3_fail, Cond.code yX3_fail cX3_fail 2 (some .int), Cond.methodLink RX3 60 yX3_begin, Cond.instanceMethod yX3_begin, Cond.selects RX3 yX3_begin yX3_begin, Cond.code yX3_begin cX3_begin 3 none, Cond.methodLink RX3 52 yX3_set, Cond.instanceMethod yX3_set, Cond.selects RX3 yX3_set yX3_set]
def wsX3_addTeam_r2 : List Cond := [Cond.code yX3_set cX3_set 4 none, Cond.methodLink RX3 56 yX3_get, Cond.instanceMethod yX3_get, Cond.selects RX3 yX3_get yX3_get, Cond.code yX3_get cX3_get 3 (some .int)]
def wsX3_addTeam : List Cond := .code yX3_addTeam cX3_addTeam 5 (some .int) :: ((wsX3_addTeam_r1 ++ wsX3_addTeam_r2) ++ wsX30)
def wsX3_setCrew_r1 : List Cond := [Cond.fieldLink RX3 26 "SledgeRaceModel" "thrown" "I", Cond.fieldLink RX3 40 "SledgeRaceModel" "tick" "I", Cond.arrayClass .int, Cond.fieldLink RX3 20 "SledgeRaceModel" "table" "[I", Cond.methodLink RX3 46 arraycopyName, Cond.native arraycopyName, Cond.static arraycopyName, Cond.initialized "java/lang/System", Cond.methodLink RX3 64 yX3_isTeam, Cond.instanceMethod yX3_isTeam, Cond.selects RX3 yX3_isTeam yX3_isTeam, Cond.initialized RX3, Cond.code yX3_isTeam cX3_isTeam 2 (some .boolean), Cond.fieldLink RX3 29 "SledgeRaceModel" "teams" "I", Cond.methodLink RX3 32 yX3_isIn, Cond.static yX3_isIn, Cond.code yX3_isIn cX3_isIn 3 (some .boolean), Cond.methodLink RX3 36 yX3_fail, Cond.instanceMethod yX3_fail, Cond.selects RX3 yX3_fail yX3_fail, Cond.code yX3_fail cX3_fail 2 (some .int), Cond.methodLink RX3 56 yX3_get, Cond.instanceMethod yX3_get, Cond.selects RX3 yX3_get yX3_get]
def wsX3_setCrew_r2 : List Cond := [Cond.code yX3_get cX3_get 3 (some .int), Cond.methodLink RX3 52 yX3_set, Cond.instanceMethod yX3_set, Cond.selects RX3 yX3_set yX3_set, Cond.code yX3_set cX3_set 4 none]
def wsX3_setCrew : List Cond := .code yX3_setCrew cX3_setCrew 8 (some .int) :: ((wsX3_setCrew_r1 ++ wsX3_setCrew_r2) ++ wsX30)
def wsX3_order : List Cond := .code yX3_order cX3_order 5 (some .int) :: ([.fieldLink RX3 26 "SledgeRaceModel" "thrown" "I", .methodLink RX3 64 yX3_isTeam, .instanceMethod yX3_isTeam, .selects RX3 yX3_isTeam yX3_isTeam, .initialized RX3, .code yX3_isTeam cX3_isTeam 2 (some .boolean), .fieldLink RX3 29 "SledgeRaceModel" "teams" "I", .methodLink RX3 32 yX3_isIn, .static yX3_isIn, .code yX3_isIn cX3_isIn 3 (some .boolean), .methodLink RX3 36 yX3_fail, .instanceMethod yX3_fail, .selects RX3 yX3_fail yX3_fail, .code yX3_fail cX3_fail 2 (some .int), .methodLink RX3 56 yX3_get, .instanceMethod yX3_get, .selects RX3 yX3_get yX3_get, .code yX3_get cX3_get 3 (some .int), .fieldLink RX3 20 "SledgeRaceModel" "table" "[I", .methodLink RX3 52 yX3_set, .instanceMethod yX3_set, .selects RX3 yX3_set yX3_set, .code yX3_set cX3_set 4 none] ++ wsX30)
def wsX3_isCarried : List Cond := .code yX3_isCarried cX3_isCarried 4 (some .boolean) :: ([.methodLink RX3 56 yX3_get, .instanceMethod yX3_get, .selects RX3 yX3_get yX3_get, .initialized RX3, .code yX3_get cX3_get 3 (some .int), .fieldLink RX3 20 "SledgeRaceModel" "table" "[I"] ++ wsX30)
def wsX3_where : List Cond := .code yX3_where cX3_where 4 (some .int) :: ([.methodLink RX3 56 yX3_get, .instanceMethod yX3_get, .selects RX3 yX3_get yX3_get, .initialized RX3, .code yX3_get cX3_get 3 (some .int), .fieldLink RX3 20 "SledgeRaceModel" "table" "[I", .methodLink RX3 68 yX3_isCarried, .instanceMethod yX3_isCarried, .selects RX3 yX3_isCarried yX3_isCarried, .code yX3_isCarried cX3_isCarried 4 (some .boolean)] ++ wsX30)
def wsX3_many : List Cond := .code yX3_many cX3_many 5 (some .int) :: ([.methodLink RX3 56 yX3_get, .instanceMethod yX3_get, .selects RX3 yX3_get yX3_get, .initialized RX3, .code yX3_get cX3_get 3 (some .int), .fieldLink RX3 20 "SledgeRaceModel" "table" "[I", .methodLink RX3 72 yX3_where, .instanceMethod yX3_where, .selects RX3 yX3_where yX3_where, .code yX3_where cX3_where 4 (some .int), .methodLink RX3 68 yX3_isCarried, .instanceMethod yX3_isCarried, .selects RX3 yX3_isCarried yX3_isCarried, .code yX3_isCarried cX3_isCarried 4 (some .boolean)] ++ wsX30)
def wsX3_pull : List Cond := .code yX3_pull cX3_pull 2 (some .int) :: ([.methodLink RX3 56 yX3_get, .instanceMethod yX3_get, .selects RX3 yX3_get yX3_get, .initialized RX3, .code yX3_get cX3_get 3 (some .int), .fieldLink RX3 20 "SledgeRaceModel" "table" "[I"] ++ wsX30)
def wsX3_drag_r1 : List Cond := [Cond.fieldLink RX3 16 "SledgeRaceModel" "ground" "[I", Cond.methodLink RX3 78 Lib.Math.max.name, Cond.static Lib.Math.max.name, Cond.initialized "java/lang/Math", Cond.code Lib.Math.max.name Lib.Math.max.code 2 (some .int), Cond.methodLink RX3 83 Lib.Math.min.name, Cond.static Lib.Math.min.name, Cond.code Lib.Math.min.name Lib.Math.min.code 2 (some .int), Cond.methodLink RX3 56 yX3_get, Cond.instanceMethod yX3_get, Cond.selects RX3 yX3_get yX3_get, Cond.initialized RX3, Cond.code yX3_get cX3_get 3 (some .int), Cond.fieldLink RX3 20 "SledgeRaceModel" "table" "[I", Cond.methodLink RX3 43 yX3_stretchAt, Cond.instanceMethod yX3_stretchAt, Cond.selects RX3 yX3_stretchAt yX3_stretchAt, Cond.code yX3_stretchAt cX3_stretchAt 3 (some .int), Cond.fieldLink RX3 13 "SledgeRaceModel" "stretches" "I", Cond.methodLink RX3 75 yX3_many, Cond.instanceMethod yX3_many, Cond.selects RX3 yX3_many yX3_many, Cond.code yX3_many cX3_many 5 (some .int), Cond.methodLink RX3 72 yX3_where]
def wsX3_drag_r2 : List Cond := [Cond.instanceMethod yX3_where, Cond.selects RX3 yX3_where yX3_where, Cond.code yX3_where cX3_where 4 (some .int), Cond.methodLink RX3 68 yX3_isCarried, Cond.instanceMethod yX3_isCarried, Cond.selects RX3 yX3_isCarried yX3_isCarried, Cond.code yX3_isCarried cX3_isCarried 4 (some .boolean)]
def wsX3_drag : List Cond := .code yX3_drag cX3_drag 7 (some .int) :: ((wsX3_drag_r1 ++ wsX3_drag_r2) ++ wsX30)
def wsX3_way_r1 : List Cond := [Cond.methodLink RX3 83 Lib.Math.min.name, Cond.static Lib.Math.min.name, Cond.initialized "java/lang/Math", Cond.code Lib.Math.min.name Lib.Math.min.code 2 (some .int), Cond.methodLink RX3 78 Lib.Math.max.name, Cond.static Lib.Math.max.name, Cond.code Lib.Math.max.name Lib.Math.max.code 2 (some .int), Cond.methodLink RX3 86 yX3_pull, Cond.instanceMethod yX3_pull, Cond.selects RX3 yX3_pull yX3_pull, Cond.initialized RX3, Cond.code yX3_pull cX3_pull 2 (some .int), Cond.methodLink RX3 56 yX3_get, Cond.instanceMethod yX3_get, Cond.selects RX3 yX3_get yX3_get, Cond.code yX3_get cX3_get 3 (some .int), Cond.fieldLink RX3 20 "SledgeRaceModel" "table" "[I", Cond.methodLink RX3 89 yX3_drag, Cond.instanceMethod yX3_drag, Cond.selects RX3 yX3_drag yX3_drag, Cond.code yX3_drag cX3_drag 7 (some .int), Cond.fieldLink RX3 16 "SledgeRaceModel" "ground" "[I", Cond.methodLink RX3 43 yX3_stretchAt, Cond.instanceMethod yX3_stretchAt]
def wsX3_way_r2 : List Cond := [Cond.selects RX3 yX3_stretchAt yX3_stretchAt, Cond.code yX3_stretchAt cX3_stretchAt 3 (some .int), Cond.fieldLink RX3 13 "SledgeRaceModel" "stretches" "I", Cond.methodLink RX3 75 yX3_many, Cond.instanceMethod yX3_many, Cond.selects RX3 yX3_many yX3_many, Cond.code yX3_many cX3_many 5 (some .int), Cond.methodLink RX3 72 yX3_where, Cond.instanceMethod yX3_where, Cond.selects RX3 yX3_where yX3_where, Cond.code yX3_where cX3_where 4 (some .int), Cond.methodLink RX3 68 yX3_isCarried, Cond.instanceMethod yX3_isCarried, Cond.selects RX3 yX3_isCarried yX3_isCarried, Cond.code yX3_isCarried cX3_isCarried 4 (some .boolean)]
def wsX3_way : List Cond := .code yX3_way cX3_way 2 (some .int) :: ((wsX3_way_r1 ++ wsX3_way_r2) ++ wsX30)
def wsX3_roll_r1 : List Cond := [Cond.methodLink RX3 92 yX3_way, Cond.instanceMethod yX3_way, Cond.selects RX3 yX3_way yX3_way, Cond.initialized RX3, Cond.code yX3_way cX3_way 2 (some .int), Cond.methodLink RX3 83 Lib.Math.min.name, Cond.static Lib.Math.min.name, Cond.initialized "java/lang/Math", Cond.code Lib.Math.min.name Lib.Math.min.code 2 (some .int), Cond.methodLink RX3 78 Lib.Math.max.name, Cond.static Lib.Math.max.name, Cond.code Lib.Math.max.name Lib.Math.max.code 2 (some .int), Cond.methodLink RX3 86 yX3_pull, Cond.instanceMethod yX3_pull, Cond.selects RX3 yX3_pull yX3_pull, Cond.code yX3_pull cX3_pull 2 (some .int), Cond.methodLink RX3 56 yX3_get, Cond.instanceMethod yX3_get, Cond.selects RX3 yX3_get yX3_get, Cond.code yX3_get cX3_get 3 (some .int), Cond.fieldLink RX3 20 "SledgeRaceModel" "table" "[I", Cond.methodLink RX3 89 yX3_drag, Cond.instanceMethod yX3_drag, Cond.selects RX3 yX3_drag yX3_drag]
def wsX3_roll_r2 : List Cond := [Cond.code yX3_drag cX3_drag 7 (some .int), Cond.fieldLink RX3 16 "SledgeRaceModel" "ground" "[I", Cond.methodLink RX3 43 yX3_stretchAt, Cond.instanceMethod yX3_stretchAt, Cond.selects RX3 yX3_stretchAt yX3_stretchAt, Cond.code yX3_stretchAt cX3_stretchAt 3 (some .int), Cond.fieldLink RX3 13 "SledgeRaceModel" "stretches" "I", Cond.methodLink RX3 75 yX3_many, Cond.instanceMethod yX3_many, Cond.selects RX3 yX3_many yX3_many, Cond.code yX3_many cX3_many 5 (some .int), Cond.methodLink RX3 72 yX3_where, Cond.instanceMethod yX3_where, Cond.selects RX3 yX3_where yX3_where, Cond.code yX3_where cX3_where 4 (some .int), Cond.methodLink RX3 68 yX3_isCarried, Cond.instanceMethod yX3_isCarried, Cond.selects RX3 yX3_isCarried yX3_isCarried, Cond.code yX3_isCarried cX3_isCarried 4 (some .boolean), Cond.methodLink RX3 52 yX3_set, Cond.instanceMethod yX3_set, Cond.selects RX3 yX3_set yX3_set, Cond.code yX3_set cX3_set 4 none]
def wsX3_roll : List Cond := .code yX3_roll cX3_roll 4 none :: ((wsX3_roll_r1 ++ wsX3_roll_r2) ++ wsX30)
def wsX3_runner : List Cond := .code yX3_runner cX3_runner 5 none :: ([.methodLink RX3 56 yX3_get, .instanceMethod yX3_get, .selects RX3 yX3_get yX3_get, .initialized RX3, .code yX3_get cX3_get 3 (some .int), .fieldLink RX3 20 "SledgeRaceModel" "table" "[I", .methodLink RX3 52 yX3_set, .instanceMethod yX3_set, .selects RX3 yX3_set yX3_set, .code yX3_set cX3_set 4 none, .methodLink RX3 72 yX3_where, .instanceMethod yX3_where, .selects RX3 yX3_where yX3_where, .code yX3_where cX3_where 4 (some .int), .methodLink RX3 68 yX3_isCarried, .instanceMethod yX3_isCarried, .selects RX3 yX3_isCarried yX3_isCarried, .code yX3_isCarried cX3_isCarried 4 (some .boolean)] ++ wsX30)
def wsX3_breathe : List Cond := .code yX3_breathe cX3_breathe 3 none :: ([.methodLink RX3 83 Lib.Math.min.name, .static Lib.Math.min.name, .initialized "java/lang/Math", .code Lib.Math.min.name Lib.Math.min.code 2 (some .int), .methodLink RX3 78 Lib.Math.max.name, .static Lib.Math.max.name, .code Lib.Math.max.name Lib.Math.max.code 2 (some .int), .methodLink RX3 56 yX3_get, .instanceMethod yX3_get, .selects RX3 yX3_get yX3_get, .initialized RX3, .code yX3_get cX3_get 3 (some .int), .fieldLink RX3 20 "SledgeRaceModel" "table" "[I", .methodLink RX3 52 yX3_set, .instanceMethod yX3_set, .selects RX3 yX3_set yX3_set, .code yX3_set cX3_set 4 none] ++ wsX30)
def wsX3_tickOf_r1 : List Cond := [Cond.methodLink RX3 78 Lib.Math.max.name, Cond.static Lib.Math.max.name, Cond.initialized "java/lang/Math", Cond.code Lib.Math.max.name Lib.Math.max.code 2 (some .int), Cond.fieldLink RX3 95 "SledgeRaceModel" "broke" "I", Cond.fieldLink RX3 9 "SledgeRaceModel" "length" "I", Cond.fieldLink RX3 40 "SledgeRaceModel" "tick" "I", Cond.methodLink RX3 56 yX3_get, Cond.instanceMethod yX3_get, Cond.selects RX3 yX3_get yX3_get, Cond.initialized RX3, Cond.code yX3_get cX3_get 3 (some .int), Cond.fieldLink RX3 20 "SledgeRaceModel" "table" "[I", Cond.methodLink RX3 86 yX3_pull, Cond.instanceMethod yX3_pull, Cond.selects RX3 yX3_pull yX3_pull, Cond.code yX3_pull cX3_pull 2 (some .int), Cond.methodLink RX3 52 yX3_set, Cond.instanceMethod yX3_set, Cond.selects RX3 yX3_set yX3_set, Cond.code yX3_set cX3_set 4 none, Cond.methodLink RX3 98 yX3_breathe, Cond.instanceMethod yX3_breathe, Cond.selects RX3 yX3_breathe yX3_breathe]
def wsX3_tickOf_r2 : List Cond := [Cond.code yX3_breathe cX3_breathe 3 none, Cond.methodLink RX3 83 Lib.Math.min.name, Cond.static Lib.Math.min.name, Cond.code Lib.Math.min.name Lib.Math.min.code 2 (some .int), Cond.methodLink RX3 102 yX3_roll, Cond.instanceMethod yX3_roll, Cond.selects RX3 yX3_roll yX3_roll, Cond.code yX3_roll cX3_roll 4 none, Cond.methodLink RX3 92 yX3_way, Cond.instanceMethod yX3_way, Cond.selects RX3 yX3_way yX3_way, Cond.code yX3_way cX3_way 2 (some .int), Cond.methodLink RX3 89 yX3_drag, Cond.instanceMethod yX3_drag, Cond.selects RX3 yX3_drag yX3_drag, Cond.code yX3_drag cX3_drag 7 (some .int), Cond.fieldLink RX3 16 "SledgeRaceModel" "ground" "[I", Cond.methodLink RX3 43 yX3_stretchAt, Cond.instanceMethod yX3_stretchAt, Cond.selects RX3 yX3_stretchAt yX3_stretchAt, Cond.code yX3_stretchAt cX3_stretchAt 3 (some .int), Cond.fieldLink RX3 13 "SledgeRaceModel" "stretches" "I", Cond.methodLink RX3 75 yX3_many, Cond.instanceMethod yX3_many]
def wsX3_tickOf_r3 : List Cond := [Cond.selects RX3 yX3_many yX3_many, Cond.code yX3_many cX3_many 5 (some .int), Cond.methodLink RX3 72 yX3_where, Cond.instanceMethod yX3_where, Cond.selects RX3 yX3_where yX3_where, Cond.code yX3_where cX3_where 4 (some .int), Cond.methodLink RX3 68 yX3_isCarried, Cond.instanceMethod yX3_isCarried, Cond.selects RX3 yX3_isCarried yX3_isCarried, Cond.code yX3_isCarried cX3_isCarried 4 (some .boolean), Cond.methodLink RX3 105 yX3_runner, Cond.instanceMethod yX3_runner, Cond.selects RX3 yX3_runner yX3_runner, Cond.code yX3_runner cX3_runner 5 none]
def wsX3_tickOf : List Cond := .code yX3_tickOf cX3_tickOf 3 none :: ((wsX3_tickOf_r1 ++ (wsX3_tickOf_r2 ++ wsX3_tickOf_r3)) ++ wsX30)
def wsX3_tickOn_r1 : List Cond := [Cond.fieldLink RX3 40 "SledgeRaceModel" "tick" "I", Cond.fieldLink RX3 29 "SledgeRaceModel" "teams" "I", Cond.methodLink RX3 108 yX3_tickOf, Cond.instanceMethod yX3_tickOf, Cond.selects RX3 yX3_tickOf yX3_tickOf, Cond.initialized RX3, Cond.code yX3_tickOf cX3_tickOf 3 none, Cond.methodLink RX3 78 Lib.Math.max.name, Cond.static Lib.Math.max.name, Cond.initialized "java/lang/Math", Cond.code Lib.Math.max.name Lib.Math.max.code 2 (some .int), Cond.fieldLink RX3 95 "SledgeRaceModel" "broke" "I", Cond.fieldLink RX3 9 "SledgeRaceModel" "length" "I", Cond.methodLink RX3 56 yX3_get, Cond.instanceMethod yX3_get, Cond.selects RX3 yX3_get yX3_get, Cond.code yX3_get cX3_get 3 (some .int), Cond.fieldLink RX3 20 "SledgeRaceModel" "table" "[I", Cond.methodLink RX3 86 yX3_pull, Cond.instanceMethod yX3_pull, Cond.selects RX3 yX3_pull yX3_pull, Cond.code yX3_pull cX3_pull 2 (some .int), Cond.methodLink RX3 52 yX3_set, Cond.instanceMethod yX3_set]
def wsX3_tickOn_r2 : List Cond := [Cond.selects RX3 yX3_set yX3_set, Cond.code yX3_set cX3_set 4 none, Cond.methodLink RX3 98 yX3_breathe, Cond.instanceMethod yX3_breathe, Cond.selects RX3 yX3_breathe yX3_breathe, Cond.code yX3_breathe cX3_breathe 3 none, Cond.methodLink RX3 83 Lib.Math.min.name, Cond.static Lib.Math.min.name, Cond.code Lib.Math.min.name Lib.Math.min.code 2 (some .int), Cond.methodLink RX3 102 yX3_roll, Cond.instanceMethod yX3_roll, Cond.selects RX3 yX3_roll yX3_roll, Cond.code yX3_roll cX3_roll 4 none, Cond.methodLink RX3 92 yX3_way, Cond.instanceMethod yX3_way, Cond.selects RX3 yX3_way yX3_way, Cond.code yX3_way cX3_way 2 (some .int), Cond.methodLink RX3 89 yX3_drag, Cond.instanceMethod yX3_drag, Cond.selects RX3 yX3_drag yX3_drag, Cond.code yX3_drag cX3_drag 7 (some .int), Cond.fieldLink RX3 16 "SledgeRaceModel" "ground" "[I", Cond.methodLink RX3 43 yX3_stretchAt, Cond.instanceMethod yX3_stretchAt]
def wsX3_tickOn_r3 : List Cond := [Cond.selects RX3 yX3_stretchAt yX3_stretchAt, Cond.code yX3_stretchAt cX3_stretchAt 3 (some .int), Cond.fieldLink RX3 13 "SledgeRaceModel" "stretches" "I", Cond.methodLink RX3 75 yX3_many, Cond.instanceMethod yX3_many, Cond.selects RX3 yX3_many yX3_many, Cond.code yX3_many cX3_many 5 (some .int), Cond.methodLink RX3 72 yX3_where, Cond.instanceMethod yX3_where, Cond.selects RX3 yX3_where yX3_where, Cond.code yX3_where cX3_where 4 (some .int), Cond.methodLink RX3 68 yX3_isCarried, Cond.instanceMethod yX3_isCarried, Cond.selects RX3 yX3_isCarried yX3_isCarried, Cond.code yX3_isCarried cX3_isCarried 4 (some .boolean), Cond.methodLink RX3 105 yX3_runner, Cond.instanceMethod yX3_runner, Cond.selects RX3 yX3_runner yX3_runner, Cond.code yX3_runner cX3_runner 5 none]
def wsX3_tickOn : List Cond := .code yX3_tickOn cX3_tickOn 2 none :: ((wsX3_tickOn_r1 ++ (wsX3_tickOn_r2 ++ wsX3_tickOn_r3)) ++ wsX30)
def wsX3_ended : List Cond := .code yX3_ended cX3_ended 3 (some .int) :: ([.fieldLink RX3 29 "SledgeRaceModel" "teams" "I", .methodLink RX3 56 yX3_get, .instanceMethod yX3_get, .selects RX3 yX3_get yX3_get, .initialized RX3, .code yX3_get cX3_get 3 (some .int), .fieldLink RX3 20 "SledgeRaceModel" "table" "[I"] ++ wsX30)
def wsX3_run_r1 : List Cond := [Cond.fieldLink RX3 26 "SledgeRaceModel" "thrown" "I", Cond.fieldLink RX3 29 "SledgeRaceModel" "teams" "I", Cond.methodLink RX3 32 yX3_isIn, Cond.static yX3_isIn, Cond.initialized RX3, Cond.code yX3_isIn cX3_isIn 3 (some .boolean), Cond.methodLink RX3 36 yX3_fail, Cond.instanceMethod yX3_fail, Cond.selects RX3 yX3_fail yX3_fail, Cond.code yX3_fail cX3_fail 2 (some .int), Cond.methodLink RX3 111 yX3_tickOn, Cond.instanceMethod yX3_tickOn, Cond.selects RX3 yX3_tickOn yX3_tickOn, Cond.code yX3_tickOn cX3_tickOn 2 none, Cond.fieldLink RX3 40 "SledgeRaceModel" "tick" "I", Cond.methodLink RX3 108 yX3_tickOf, Cond.instanceMethod yX3_tickOf, Cond.selects RX3 yX3_tickOf yX3_tickOf, Cond.code yX3_tickOf cX3_tickOf 3 none, Cond.methodLink RX3 78 Lib.Math.max.name, Cond.static Lib.Math.max.name, Cond.initialized "java/lang/Math", Cond.code Lib.Math.max.name Lib.Math.max.code 2 (some .int), Cond.fieldLink RX3 95 "SledgeRaceModel" "broke" "I"]
def wsX3_run_r2 : List Cond := [Cond.fieldLink RX3 9 "SledgeRaceModel" "length" "I", Cond.methodLink RX3 56 yX3_get, Cond.instanceMethod yX3_get, Cond.selects RX3 yX3_get yX3_get, Cond.code yX3_get cX3_get 3 (some .int), Cond.fieldLink RX3 20 "SledgeRaceModel" "table" "[I", Cond.methodLink RX3 86 yX3_pull, Cond.instanceMethod yX3_pull, Cond.selects RX3 yX3_pull yX3_pull, Cond.code yX3_pull cX3_pull 2 (some .int), Cond.methodLink RX3 52 yX3_set, Cond.instanceMethod yX3_set, Cond.selects RX3 yX3_set yX3_set, Cond.code yX3_set cX3_set 4 none, Cond.methodLink RX3 98 yX3_breathe, Cond.instanceMethod yX3_breathe, Cond.selects RX3 yX3_breathe yX3_breathe, Cond.code yX3_breathe cX3_breathe 3 none, Cond.methodLink RX3 83 Lib.Math.min.name, Cond.static Lib.Math.min.name, Cond.code Lib.Math.min.name Lib.Math.min.code 2 (some .int), Cond.methodLink RX3 102 yX3_roll, Cond.instanceMethod yX3_roll, Cond.selects RX3 yX3_roll yX3_roll]
def wsX3_run_r3 : List Cond := [Cond.code yX3_roll cX3_roll 4 none, Cond.methodLink RX3 92 yX3_way, Cond.instanceMethod yX3_way, Cond.selects RX3 yX3_way yX3_way, Cond.code yX3_way cX3_way 2 (some .int), Cond.methodLink RX3 89 yX3_drag, Cond.instanceMethod yX3_drag, Cond.selects RX3 yX3_drag yX3_drag, Cond.code yX3_drag cX3_drag 7 (some .int), Cond.fieldLink RX3 16 "SledgeRaceModel" "ground" "[I", Cond.methodLink RX3 43 yX3_stretchAt, Cond.instanceMethod yX3_stretchAt, Cond.selects RX3 yX3_stretchAt yX3_stretchAt, Cond.code yX3_stretchAt cX3_stretchAt 3 (some .int), Cond.fieldLink RX3 13 "SledgeRaceModel" "stretches" "I", Cond.methodLink RX3 75 yX3_many, Cond.instanceMethod yX3_many, Cond.selects RX3 yX3_many yX3_many, Cond.code yX3_many cX3_many 5 (some .int), Cond.methodLink RX3 72 yX3_where, Cond.instanceMethod yX3_where, Cond.selects RX3 yX3_where yX3_where, Cond.code yX3_where cX3_where 4 (some .int), Cond.methodLink RX3 68 yX3_isCarried]
def wsX3_run_r4 : List Cond := [Cond.instanceMethod yX3_isCarried, Cond.selects RX3 yX3_isCarried yX3_isCarried, Cond.code yX3_isCarried cX3_isCarried 4 (some .boolean), Cond.methodLink RX3 105 yX3_runner, Cond.instanceMethod yX3_runner, Cond.selects RX3 yX3_runner yX3_runner, Cond.code yX3_runner cX3_runner 5 none, Cond.methodLink RX3 114 yX3_ended, Cond.instanceMethod yX3_ended, Cond.selects RX3 yX3_ended yX3_ended, Cond.code yX3_ended cX3_ended 3 (some .int)]
def wsX3_run : List Cond := .code yX3_run cX3_run 3 (some .int) :: ((wsX3_run_r1 ++ (wsX3_run_r2 ++ (wsX3_run_r3 ++ wsX3_run_r4))) ++ wsX30)
def wsX3_restart : List Cond := .code yX3_restart cX3_restart 2 (some .int) :: ([.fieldLink RX3 26 "SledgeRaceModel" "thrown" "I", .fieldLink RX3 40 "SledgeRaceModel" "tick" "I", .fieldLink RX3 95 "SledgeRaceModel" "broke" "I", .fieldLink RX3 29 "SledgeRaceModel" "teams" "I", .methodLink RX3 60 yX3_begin, .instanceMethod yX3_begin, .selects RX3 yX3_begin yX3_begin, .initialized RX3, .code yX3_begin cX3_begin 3 none, .methodLink RX3 52 yX3_set, .instanceMethod yX3_set, .selects RX3 yX3_set yX3_set, .code yX3_set cX3_set 4 none, .fieldLink RX3 20 "SledgeRaceModel" "table" "[I", .methodLink RX3 56 yX3_get, .instanceMethod yX3_get, .selects RX3 yX3_get yX3_get, .code yX3_get cX3_get 3 (some .int)] ++ wsX30)
def wsX3_counted : List Cond := .code yX3_counted cX3_counted 2 (some .int) :: ([.fieldLink RX3 40 "SledgeRaceModel" "tick" "I", .fieldLink RX3 29 "SledgeRaceModel" "teams" "I", .fieldLink RX3 9 "SledgeRaceModel" "length" "I", .fieldLink RX3 13 "SledgeRaceModel" "stretches" "I", .fieldLink RX3 95 "SledgeRaceModel" "broke" "I", .methodLink RX3 114 yX3_ended, .instanceMethod yX3_ended, .selects RX3 yX3_ended yX3_ended, .initialized RX3, .code yX3_ended cX3_ended 3 (some .int), .methodLink RX3 56 yX3_get, .instanceMethod yX3_get, .selects RX3 yX3_get yX3_get, .code yX3_get cX3_get 3 (some .int), .fieldLink RX3 20 "SledgeRaceModel" "table" "[I"] ++ wsX30)
def wsX3_count_r1 : List Cond := [Cond.fieldLink RX3 26 "SledgeRaceModel" "thrown" "I", Cond.methodLink RX3 32 yX3_isIn, Cond.static yX3_isIn, Cond.initialized RX3, Cond.code yX3_isIn cX3_isIn 3 (some .boolean), Cond.methodLink RX3 118 yX3_counted, Cond.instanceMethod yX3_counted, Cond.selects RX3 yX3_counted yX3_counted, Cond.code yX3_counted cX3_counted 2 (some .int), Cond.fieldLink RX3 40 "SledgeRaceModel" "tick" "I", Cond.fieldLink RX3 29 "SledgeRaceModel" "teams" "I", Cond.fieldLink RX3 9 "SledgeRaceModel" "length" "I", Cond.fieldLink RX3 13 "SledgeRaceModel" "stretches" "I", Cond.fieldLink RX3 95 "SledgeRaceModel" "broke" "I", Cond.methodLink RX3 114 yX3_ended, Cond.instanceMethod yX3_ended, Cond.selects RX3 yX3_ended yX3_ended, Cond.code yX3_ended cX3_ended 3 (some .int), Cond.methodLink RX3 56 yX3_get, Cond.instanceMethod yX3_get, Cond.selects RX3 yX3_get yX3_get, Cond.code yX3_get cX3_get 3 (some .int), Cond.fieldLink RX3 20 "SledgeRaceModel" "table" "[I", Cond.methodLink RX3 36 yX3_fail]
def wsX3_count_r2 : List Cond := [Cond.instanceMethod yX3_fail, Cond.selects RX3 yX3_fail yX3_fail, Cond.code yX3_fail cX3_fail 2 (some .int)]
def wsX3_count : List Cond := .code yX3_count cX3_count 2 (some .int) :: ((wsX3_count_r1 ++ wsX3_count_r2) ++ wsX30)
def wsX3_teamTold : List Cond := .code yX3_teamTold cX3_teamTold 3 (some .int) :: ([.methodLink RX3 56 yX3_get, .instanceMethod yX3_get, .selects RX3 yX3_get yX3_get, .initialized RX3, .code yX3_get cX3_get 3 (some .int), .fieldLink RX3 20 "SledgeRaceModel" "table" "[I", .methodLink RX3 75 yX3_many, .instanceMethod yX3_many, .selects RX3 yX3_many yX3_many, .code yX3_many cX3_many 5 (some .int), .methodLink RX3 72 yX3_where, .instanceMethod yX3_where, .selects RX3 yX3_where yX3_where, .code yX3_where cX3_where 4 (some .int), .methodLink RX3 68 yX3_isCarried, .instanceMethod yX3_isCarried, .selects RX3 yX3_isCarried yX3_isCarried, .code yX3_isCarried cX3_isCarried 4 (some .boolean)] ++ wsX30)
def wsX3_team_r1 : List Cond := [Cond.fieldLink RX3 26 "SledgeRaceModel" "thrown" "I", Cond.methodLink RX3 64 yX3_isTeam, Cond.instanceMethod yX3_isTeam, Cond.selects RX3 yX3_isTeam yX3_isTeam, Cond.initialized RX3, Cond.code yX3_isTeam cX3_isTeam 2 (some .boolean), Cond.fieldLink RX3 29 "SledgeRaceModel" "teams" "I", Cond.methodLink RX3 32 yX3_isIn, Cond.static yX3_isIn, Cond.code yX3_isIn cX3_isIn 3 (some .boolean), Cond.methodLink RX3 121 yX3_teamTold, Cond.instanceMethod yX3_teamTold, Cond.selects RX3 yX3_teamTold yX3_teamTold, Cond.code yX3_teamTold cX3_teamTold 3 (some .int), Cond.methodLink RX3 56 yX3_get, Cond.instanceMethod yX3_get, Cond.selects RX3 yX3_get yX3_get, Cond.code yX3_get cX3_get 3 (some .int), Cond.fieldLink RX3 20 "SledgeRaceModel" "table" "[I", Cond.methodLink RX3 75 yX3_many, Cond.instanceMethod yX3_many, Cond.selects RX3 yX3_many yX3_many, Cond.code yX3_many cX3_many 5 (some .int), Cond.methodLink RX3 72 yX3_where]
def wsX3_team_r2 : List Cond := [Cond.instanceMethod yX3_where, Cond.selects RX3 yX3_where yX3_where, Cond.code yX3_where cX3_where 4 (some .int), Cond.methodLink RX3 68 yX3_isCarried, Cond.instanceMethod yX3_isCarried, Cond.selects RX3 yX3_isCarried yX3_isCarried, Cond.code yX3_isCarried cX3_isCarried 4 (some .boolean), Cond.methodLink RX3 36 yX3_fail, Cond.instanceMethod yX3_fail, Cond.selects RX3 yX3_fail yX3_fail, Cond.code yX3_fail cX3_fail 2 (some .int)]
def wsX3_team : List Cond := .code yX3_team cX3_team 3 (some .int) :: ((wsX3_team_r1 ++ wsX3_team_r2) ++ wsX30)
def wsX3_roller : List Cond := .code yX3_roller cX3_roller 3 (some .int) :: ([.fieldLink RX3 26 "SledgeRaceModel" "thrown" "I", .methodLink RX3 64 yX3_isTeam, .instanceMethod yX3_isTeam, .selects RX3 yX3_isTeam yX3_isTeam, .initialized RX3, .code yX3_isTeam cX3_isTeam 2 (some .boolean), .fieldLink RX3 29 "SledgeRaceModel" "teams" "I", .methodLink RX3 32 yX3_isIn, .static yX3_isIn, .code yX3_isIn cX3_isIn 3 (some .boolean), .methodLink RX3 56 yX3_get, .instanceMethod yX3_get, .selects RX3 yX3_get yX3_get, .code yX3_get cX3_get 3 (some .int), .fieldLink RX3 20 "SledgeRaceModel" "table" "[I", .methodLink RX3 36 yX3_fail, .instanceMethod yX3_fail, .selects RX3 yX3_fail yX3_fail, .code yX3_fail cX3_fail 2 (some .int), .methodLink RX3 68 yX3_isCarried, .instanceMethod yX3_isCarried, .selects RX3 yX3_isCarried yX3_isCarried, .code yX3_isCarried cX3_isCarried 4 (some .boolean)] ++ wsX30)
def wsX3_next_r1 : List Cond := [Cond.fieldLink RX3 26 "SledgeRaceModel" "thrown" "I", Cond.methodLink RX3 64 yX3_isTeam, Cond.instanceMethod yX3_isTeam, Cond.selects RX3 yX3_isTeam yX3_isTeam, Cond.initialized RX3, Cond.code yX3_isTeam cX3_isTeam 2 (some .boolean), Cond.fieldLink RX3 29 "SledgeRaceModel" "teams" "I", Cond.methodLink RX3 32 yX3_isIn, Cond.static yX3_isIn, Cond.code yX3_isIn cX3_isIn 3 (some .boolean), Cond.methodLink RX3 36 yX3_fail, Cond.instanceMethod yX3_fail, Cond.selects RX3 yX3_fail yX3_fail, Cond.code yX3_fail cX3_fail 2 (some .int), Cond.methodLink RX3 86 yX3_pull, Cond.instanceMethod yX3_pull, Cond.selects RX3 yX3_pull yX3_pull, Cond.code yX3_pull cX3_pull 2 (some .int), Cond.methodLink RX3 56 yX3_get, Cond.instanceMethod yX3_get, Cond.selects RX3 yX3_get yX3_get, Cond.code yX3_get cX3_get 3 (some .int), Cond.fieldLink RX3 20 "SledgeRaceModel" "table" "[I", Cond.methodLink RX3 89 yX3_drag]
def wsX3_next_r2 : List Cond := [Cond.instanceMethod yX3_drag, Cond.selects RX3 yX3_drag yX3_drag, Cond.code yX3_drag cX3_drag 7 (some .int), Cond.fieldLink RX3 16 "SledgeRaceModel" "ground" "[I", Cond.methodLink RX3 78 Lib.Math.max.name, Cond.static Lib.Math.max.name, Cond.initialized "java/lang/Math", Cond.code Lib.Math.max.name Lib.Math.max.code 2 (some .int), Cond.methodLink RX3 83 Lib.Math.min.name, Cond.static Lib.Math.min.name, Cond.code Lib.Math.min.name Lib.Math.min.code 2 (some .int), Cond.methodLink RX3 43 yX3_stretchAt, Cond.instanceMethod yX3_stretchAt, Cond.selects RX3 yX3_stretchAt yX3_stretchAt, Cond.code yX3_stretchAt cX3_stretchAt 3 (some .int), Cond.fieldLink RX3 13 "SledgeRaceModel" "stretches" "I", Cond.methodLink RX3 75 yX3_many, Cond.instanceMethod yX3_many, Cond.selects RX3 yX3_many yX3_many, Cond.code yX3_many cX3_many 5 (some .int), Cond.methodLink RX3 72 yX3_where, Cond.instanceMethod yX3_where, Cond.selects RX3 yX3_where yX3_where, Cond.code yX3_where cX3_where 4 (some .int)]
def wsX3_next_r3 : List Cond := [Cond.methodLink RX3 68 yX3_isCarried, Cond.instanceMethod yX3_isCarried, Cond.selects RX3 yX3_isCarried yX3_isCarried, Cond.code yX3_isCarried cX3_isCarried 4 (some .boolean), Cond.methodLink RX3 92 yX3_way, Cond.instanceMethod yX3_way, Cond.selects RX3 yX3_way yX3_way, Cond.code yX3_way cX3_way 2 (some .int)]
def wsX3_next : List Cond := .code yX3_next cX3_next 3 (some .int) :: ((wsX3_next_r1 ++ (wsX3_next_r2 ++ wsX3_next_r3)) ++ wsX30)
def wsX3_isAhead : List Cond := .code yX3_isAhead cX3_isAhead 5 (some .boolean) :: ([.methodLink RX3 56 yX3_get, .instanceMethod yX3_get, .selects RX3 yX3_get yX3_get, .initialized RX3, .code yX3_get cX3_get 3 (some .int), .fieldLink RX3 20 "SledgeRaceModel" "table" "[I"] ++ wsX30)
def wsX3_rankOf : List Cond := .code yX3_rankOf cX3_rankOf 4 (some .int) :: ([.fieldLink RX3 29 "SledgeRaceModel" "teams" "I", .methodLink RX3 124 yX3_isAhead, .instanceMethod yX3_isAhead, .selects RX3 yX3_isAhead yX3_isAhead, .initialized RX3, .code yX3_isAhead cX3_isAhead 5 (some .boolean), .methodLink RX3 56 yX3_get, .instanceMethod yX3_get, .selects RX3 yX3_get yX3_get, .code yX3_get cX3_get 3 (some .int), .fieldLink RX3 20 "SledgeRaceModel" "table" "[I"] ++ wsX30)
def wsX3_teamAt : List Cond := .code yX3_teamAt cX3_teamAt 3 (some .int) :: ([.methodLink RX3 127 yX3_rankOf, .instanceMethod yX3_rankOf, .selects RX3 yX3_rankOf yX3_rankOf, .initialized RX3, .code yX3_rankOf cX3_rankOf 4 (some .int), .fieldLink RX3 29 "SledgeRaceModel" "teams" "I", .methodLink RX3 124 yX3_isAhead, .instanceMethod yX3_isAhead, .selects RX3 yX3_isAhead yX3_isAhead, .code yX3_isAhead cX3_isAhead 5 (some .boolean), .methodLink RX3 56 yX3_get, .instanceMethod yX3_get, .selects RX3 yX3_get yX3_get, .code yX3_get cX3_get 3 (some .int), .fieldLink RX3 20 "SledgeRaceModel" "table" "[I"] ++ wsX30)
def wsX3_ranked_r1 : List Cond := [Cond.fieldLink RX3 26 "SledgeRaceModel" "thrown" "I", Cond.fieldLink RX3 29 "SledgeRaceModel" "teams" "I", Cond.methodLink RX3 32 yX3_isIn, Cond.static yX3_isIn, Cond.initialized RX3, Cond.code yX3_isIn cX3_isIn 3 (some .boolean), Cond.methodLink RX3 130 yX3_teamAt, Cond.instanceMethod yX3_teamAt, Cond.selects RX3 yX3_teamAt yX3_teamAt, Cond.code yX3_teamAt cX3_teamAt 3 (some .int), Cond.methodLink RX3 127 yX3_rankOf, Cond.instanceMethod yX3_rankOf, Cond.selects RX3 yX3_rankOf yX3_rankOf, Cond.code yX3_rankOf cX3_rankOf 4 (some .int), Cond.methodLink RX3 124 yX3_isAhead, Cond.instanceMethod yX3_isAhead, Cond.selects RX3 yX3_isAhead yX3_isAhead, Cond.code yX3_isAhead cX3_isAhead 5 (some .boolean), Cond.methodLink RX3 56 yX3_get, Cond.instanceMethod yX3_get, Cond.selects RX3 yX3_get yX3_get, Cond.code yX3_get cX3_get 3 (some .int), Cond.fieldLink RX3 20 "SledgeRaceModel" "table" "[I", Cond.methodLink RX3 36 yX3_fail]
def wsX3_ranked_r2 : List Cond := [Cond.instanceMethod yX3_fail, Cond.selects RX3 yX3_fail yX3_fail, Cond.code yX3_fail cX3_fail 2 (some .int)]
def wsX3_ranked : List Cond := .code yX3_ranked cX3_ranked 2 (some .int) :: ((wsX3_ranked_r1 ++ wsX3_ranked_r2) ++ wsX30)
def wsX3_foresee_r1 : List Cond := [Cond.fieldLink RX3 26 "SledgeRaceModel" "thrown" "I", Cond.fieldLink RX3 40 "SledgeRaceModel" "tick" "I", Cond.fieldLink RX3 95 "SledgeRaceModel" "broke" "I", Cond.fieldLink RX3 20 "SledgeRaceModel" "table" "[I", Cond.fieldLink RX3 23 "SledgeRaceModel" "spare" "[I", Cond.methodLink RX3 46 arraycopyName, Cond.native arraycopyName, Cond.static arraycopyName, Cond.initialized "java/lang/System", Cond.methodLink RX3 64 yX3_isTeam, Cond.instanceMethod yX3_isTeam, Cond.selects RX3 yX3_isTeam yX3_isTeam, Cond.initialized RX3, Cond.code yX3_isTeam cX3_isTeam 2 (some .boolean), Cond.fieldLink RX3 29 "SledgeRaceModel" "teams" "I", Cond.methodLink RX3 32 yX3_isIn, Cond.static yX3_isIn, Cond.code yX3_isIn cX3_isIn 3 (some .boolean), Cond.methodLink RX3 36 yX3_fail, Cond.instanceMethod yX3_fail, Cond.selects RX3 yX3_fail yX3_fail, Cond.code yX3_fail cX3_fail 2 (some .int), Cond.methodLink RX3 111 yX3_tickOn, Cond.instanceMethod yX3_tickOn]
def wsX3_foresee_r2 : List Cond := [Cond.selects RX3 yX3_tickOn yX3_tickOn, Cond.code yX3_tickOn cX3_tickOn 2 none, Cond.methodLink RX3 108 yX3_tickOf, Cond.instanceMethod yX3_tickOf, Cond.selects RX3 yX3_tickOf yX3_tickOf, Cond.code yX3_tickOf cX3_tickOf 3 none, Cond.methodLink RX3 78 Lib.Math.max.name, Cond.static Lib.Math.max.name, Cond.initialized "java/lang/Math", Cond.code Lib.Math.max.name Lib.Math.max.code 2 (some .int), Cond.fieldLink RX3 9 "SledgeRaceModel" "length" "I", Cond.methodLink RX3 56 yX3_get, Cond.instanceMethod yX3_get, Cond.selects RX3 yX3_get yX3_get, Cond.code yX3_get cX3_get 3 (some .int), Cond.methodLink RX3 86 yX3_pull, Cond.instanceMethod yX3_pull, Cond.selects RX3 yX3_pull yX3_pull, Cond.code yX3_pull cX3_pull 2 (some .int), Cond.methodLink RX3 52 yX3_set, Cond.instanceMethod yX3_set, Cond.selects RX3 yX3_set yX3_set, Cond.code yX3_set cX3_set 4 none, Cond.methodLink RX3 98 yX3_breathe]
def wsX3_foresee_r3 : List Cond := [Cond.instanceMethod yX3_breathe, Cond.selects RX3 yX3_breathe yX3_breathe, Cond.code yX3_breathe cX3_breathe 3 none, Cond.methodLink RX3 83 Lib.Math.min.name, Cond.static Lib.Math.min.name, Cond.code Lib.Math.min.name Lib.Math.min.code 2 (some .int), Cond.methodLink RX3 102 yX3_roll, Cond.instanceMethod yX3_roll, Cond.selects RX3 yX3_roll yX3_roll, Cond.code yX3_roll cX3_roll 4 none, Cond.methodLink RX3 92 yX3_way, Cond.instanceMethod yX3_way, Cond.selects RX3 yX3_way yX3_way, Cond.code yX3_way cX3_way 2 (some .int), Cond.methodLink RX3 89 yX3_drag, Cond.instanceMethod yX3_drag, Cond.selects RX3 yX3_drag yX3_drag, Cond.code yX3_drag cX3_drag 7 (some .int), Cond.fieldLink RX3 16 "SledgeRaceModel" "ground" "[I", Cond.methodLink RX3 43 yX3_stretchAt, Cond.instanceMethod yX3_stretchAt, Cond.selects RX3 yX3_stretchAt yX3_stretchAt, Cond.code yX3_stretchAt cX3_stretchAt 3 (some .int), Cond.fieldLink RX3 13 "SledgeRaceModel" "stretches" "I"]
def wsX3_foresee_r4 : List Cond := [Cond.methodLink RX3 75 yX3_many, Cond.instanceMethod yX3_many, Cond.selects RX3 yX3_many yX3_many, Cond.code yX3_many cX3_many 5 (some .int), Cond.methodLink RX3 72 yX3_where, Cond.instanceMethod yX3_where, Cond.selects RX3 yX3_where yX3_where, Cond.code yX3_where cX3_where 4 (some .int), Cond.methodLink RX3 68 yX3_isCarried, Cond.instanceMethod yX3_isCarried, Cond.selects RX3 yX3_isCarried yX3_isCarried, Cond.code yX3_isCarried cX3_isCarried 4 (some .boolean), Cond.methodLink RX3 105 yX3_runner, Cond.instanceMethod yX3_runner, Cond.selects RX3 yX3_runner yX3_runner, Cond.code yX3_runner cX3_runner 5 none, Cond.methodLink RX3 127 yX3_rankOf, Cond.instanceMethod yX3_rankOf, Cond.selects RX3 yX3_rankOf yX3_rankOf, Cond.code yX3_rankOf cX3_rankOf 4 (some .int), Cond.methodLink RX3 124 yX3_isAhead, Cond.instanceMethod yX3_isAhead, Cond.selects RX3 yX3_isAhead yX3_isAhead, Cond.code yX3_isAhead cX3_isAhead 5 (some .boolean)]
def wsX3_foresee : List Cond := .code yX3_foresee cX3_foresee 7 (some .int) :: ((wsX3_foresee_r1 ++ (wsX3_foresee_r2 ++ (wsX3_foresee_r3 ++ wsX3_foresee_r4))) ++ wsX30)
def wsX3_advise_r1 : List Cond := [Cond.fieldLink RX3 26 "SledgeRaceModel" "thrown" "I", Cond.methodLink RX3 64 yX3_isTeam, Cond.instanceMethod yX3_isTeam, Cond.selects RX3 yX3_isTeam yX3_isTeam, Cond.initialized RX3, Cond.code yX3_isTeam cX3_isTeam 2 (some .boolean), Cond.fieldLink RX3 29 "SledgeRaceModel" "teams" "I", Cond.methodLink RX3 32 yX3_isIn, Cond.static yX3_isIn, Cond.code yX3_isIn cX3_isIn 3 (some .boolean), Cond.methodLink RX3 36 yX3_fail, Cond.instanceMethod yX3_fail, Cond.selects RX3 yX3_fail yX3_fail, Cond.code yX3_fail cX3_fail 2 (some .int), Cond.methodLink RX3 56 yX3_get, Cond.instanceMethod yX3_get, Cond.selects RX3 yX3_get yX3_get, Cond.code yX3_get cX3_get 3 (some .int), Cond.fieldLink RX3 20 "SledgeRaceModel" "table" "[I", Cond.methodLink RX3 52 yX3_set, Cond.instanceMethod yX3_set, Cond.selects RX3 yX3_set yX3_set, Cond.code yX3_set cX3_set 4 none, Cond.methodLink RX3 133 yX3_foresee]
def wsX3_advise_r2 : List Cond := [Cond.instanceMethod yX3_foresee, Cond.selects RX3 yX3_foresee yX3_foresee, Cond.code yX3_foresee cX3_foresee 7 (some .int), Cond.fieldLink RX3 40 "SledgeRaceModel" "tick" "I", Cond.fieldLink RX3 95 "SledgeRaceModel" "broke" "I", Cond.fieldLink RX3 23 "SledgeRaceModel" "spare" "[I", Cond.methodLink RX3 46 arraycopyName, Cond.native arraycopyName, Cond.static arraycopyName, Cond.initialized "java/lang/System", Cond.methodLink RX3 111 yX3_tickOn, Cond.instanceMethod yX3_tickOn, Cond.selects RX3 yX3_tickOn yX3_tickOn, Cond.code yX3_tickOn cX3_tickOn 2 none, Cond.methodLink RX3 108 yX3_tickOf, Cond.instanceMethod yX3_tickOf, Cond.selects RX3 yX3_tickOf yX3_tickOf, Cond.code yX3_tickOf cX3_tickOf 3 none, Cond.methodLink RX3 78 Lib.Math.max.name, Cond.static Lib.Math.max.name, Cond.initialized "java/lang/Math", Cond.code Lib.Math.max.name Lib.Math.max.code 2 (some .int), Cond.fieldLink RX3 9 "SledgeRaceModel" "length" "I", Cond.methodLink RX3 86 yX3_pull]
def wsX3_advise_r3 : List Cond := [Cond.instanceMethod yX3_pull, Cond.selects RX3 yX3_pull yX3_pull, Cond.code yX3_pull cX3_pull 2 (some .int), Cond.methodLink RX3 98 yX3_breathe, Cond.instanceMethod yX3_breathe, Cond.selects RX3 yX3_breathe yX3_breathe, Cond.code yX3_breathe cX3_breathe 3 none, Cond.methodLink RX3 83 Lib.Math.min.name, Cond.static Lib.Math.min.name, Cond.code Lib.Math.min.name Lib.Math.min.code 2 (some .int), Cond.methodLink RX3 102 yX3_roll, Cond.instanceMethod yX3_roll, Cond.selects RX3 yX3_roll yX3_roll, Cond.code yX3_roll cX3_roll 4 none, Cond.methodLink RX3 92 yX3_way, Cond.instanceMethod yX3_way, Cond.selects RX3 yX3_way yX3_way, Cond.code yX3_way cX3_way 2 (some .int), Cond.methodLink RX3 89 yX3_drag, Cond.instanceMethod yX3_drag, Cond.selects RX3 yX3_drag yX3_drag, Cond.code yX3_drag cX3_drag 7 (some .int), Cond.fieldLink RX3 16 "SledgeRaceModel" "ground" "[I", Cond.methodLink RX3 43 yX3_stretchAt]
def wsX3_advise_r4 : List Cond := [Cond.instanceMethod yX3_stretchAt, Cond.selects RX3 yX3_stretchAt yX3_stretchAt, Cond.code yX3_stretchAt cX3_stretchAt 3 (some .int), Cond.fieldLink RX3 13 "SledgeRaceModel" "stretches" "I", Cond.methodLink RX3 75 yX3_many, Cond.instanceMethod yX3_many, Cond.selects RX3 yX3_many yX3_many, Cond.code yX3_many cX3_many 5 (some .int), Cond.methodLink RX3 72 yX3_where, Cond.instanceMethod yX3_where, Cond.selects RX3 yX3_where yX3_where, Cond.code yX3_where cX3_where 4 (some .int), Cond.methodLink RX3 68 yX3_isCarried, Cond.instanceMethod yX3_isCarried, Cond.selects RX3 yX3_isCarried yX3_isCarried, Cond.code yX3_isCarried cX3_isCarried 4 (some .boolean), Cond.methodLink RX3 105 yX3_runner, Cond.instanceMethod yX3_runner, Cond.selects RX3 yX3_runner yX3_runner, Cond.code yX3_runner cX3_runner 5 none, Cond.methodLink RX3 127 yX3_rankOf, Cond.instanceMethod yX3_rankOf, Cond.selects RX3 yX3_rankOf yX3_rankOf, Cond.code yX3_rankOf cX3_rankOf 4 (some .int)]
def wsX3_advise_r5 : List Cond := [Cond.methodLink RX3 124 yX3_isAhead, Cond.instanceMethod yX3_isAhead, Cond.selects RX3 yX3_isAhead yX3_isAhead, Cond.code yX3_isAhead cX3_isAhead 5 (some .boolean)]
def wsX3_advise : List Cond := .code yX3_advise cX3_advise 8 (some .int) :: ((wsX3_advise_r1 ++ (wsX3_advise_r2 ++ (wsX3_advise_r3 ++ (wsX3_advise_r4 ++ wsX3_advise_r5)))) ++ wsX30)
def wsX3_mean : List Cond := .code yX3_mean cX3_mean 3 (some .double) :: ([.fieldLink RX3 26 "SledgeRaceModel" "thrown" "I", .fieldLink RX3 29 "SledgeRaceModel" "teams" "I", .methodLink RX3 56 yX3_get, .instanceMethod yX3_get, .selects RX3 yX3_get yX3_get, .initialized RX3, .code yX3_get cX3_get 3 (some .int), .fieldLink RX3 20 "SledgeRaceModel" "table" "[I"] ++ wsX30)
def wsX3_digest_r1 : List Cond := [Cond.fieldLink RX3 26 "SledgeRaceModel" "thrown" "I", Cond.constantLong RX3 137 (461), Cond.constantLong RX3 139 (31), Cond.fieldLink RX3 29 "SledgeRaceModel" "teams" "I", Cond.methodLink RX3 118 yX3_counted, Cond.instanceMethod yX3_counted, Cond.selects RX3 yX3_counted yX3_counted, Cond.initialized RX3, Cond.code yX3_counted cX3_counted 2 (some .int), Cond.fieldLink RX3 40 "SledgeRaceModel" "tick" "I", Cond.fieldLink RX3 9 "SledgeRaceModel" "length" "I", Cond.fieldLink RX3 13 "SledgeRaceModel" "stretches" "I", Cond.fieldLink RX3 95 "SledgeRaceModel" "broke" "I", Cond.methodLink RX3 114 yX3_ended, Cond.instanceMethod yX3_ended, Cond.selects RX3 yX3_ended yX3_ended, Cond.code yX3_ended cX3_ended 3 (some .int), Cond.methodLink RX3 56 yX3_get, Cond.instanceMethod yX3_get, Cond.selects RX3 yX3_get yX3_get, Cond.code yX3_get cX3_get 3 (some .int), Cond.fieldLink RX3 20 "SledgeRaceModel" "table" "[I", Cond.methodLink RX3 121 yX3_teamTold, Cond.instanceMethod yX3_teamTold]
def wsX3_digest_r2 : List Cond := [Cond.selects RX3 yX3_teamTold yX3_teamTold, Cond.code yX3_teamTold cX3_teamTold 3 (some .int), Cond.methodLink RX3 75 yX3_many, Cond.instanceMethod yX3_many, Cond.selects RX3 yX3_many yX3_many, Cond.code yX3_many cX3_many 5 (some .int), Cond.methodLink RX3 72 yX3_where, Cond.instanceMethod yX3_where, Cond.selects RX3 yX3_where yX3_where, Cond.code yX3_where cX3_where 4 (some .int), Cond.methodLink RX3 68 yX3_isCarried, Cond.instanceMethod yX3_isCarried, Cond.selects RX3 yX3_isCarried yX3_isCarried, Cond.code yX3_isCarried cX3_isCarried 4 (some .boolean), Cond.methodLink RX3 130 yX3_teamAt, Cond.instanceMethod yX3_teamAt, Cond.selects RX3 yX3_teamAt yX3_teamAt, Cond.code yX3_teamAt cX3_teamAt 3 (some .int), Cond.methodLink RX3 127 yX3_rankOf, Cond.instanceMethod yX3_rankOf, Cond.selects RX3 yX3_rankOf yX3_rankOf, Cond.code yX3_rankOf cX3_rankOf 4 (some .int), Cond.methodLink RX3 124 yX3_isAhead, Cond.instanceMethod yX3_isAhead]
def wsX3_digest_r3 : List Cond := [Cond.selects RX3 yX3_isAhead yX3_isAhead, Cond.code yX3_isAhead cX3_isAhead 5 (some .boolean)]
def wsX3_digest : List Cond := .code yX3_digest cX3_digest 5 (some .long) :: ((wsX3_digest_r1 ++ (wsX3_digest_r2 ++ wsX3_digest_r3)) ++ wsX30)
def wsJ9_max_7cf53 : List Cond := .code yJ9_max_7cf53 cJ9_max_7cf53 2 (some .int) :: ([])
def wsJ9_min_7cf53 : List Cond := .code yJ9_min_7cf53 cJ9_min_7cf53 2 (some .int) :: ([])
def wsL_setLength : List Cond := .codeWith yL_setLength cL_setLength 4 (some .int) [(0, 9, 12, 13), (0, 9, 15, 15)] :: ([.classLink RL 13 "java/lang/IllegalArgumentException", .classLink RL 15 "java/lang/IllegalStateException", .methodLink RL 7 yX2_setLength, .instanceMethod yX2_setLength, .selects RX2 yX2_setLength yX2_setLength, .initialized RX2, .code yX2_setLength cX2_setLength 3 (some .int), .classLink RX2 43 "java/lang/IllegalArgumentException", .initialized "java/lang/IllegalArgumentException", .fieldLink RX2 10 "SledgeRace" "track" "LSledgeRace$Track;", .methodLink RX2 39 yX2_isOutside, .static yX2_isOutside, .code yX2_isOutside cX2_isOutside 3 (some .boolean), .methodLink RX2 50 yX2_requireStart, .instanceMethod yX2_requireStart, .selects RX2 yX2_requireStart yX2_requireStart, .code yX2_requireStart cX2_requireStart 1 none, .classLink RX2 61 "java/lang/IllegalStateException", .initialized "java/lang/IllegalStateException", .fieldLink RX2 36 "SledgeRace" "tick" "I"] ++ wsX20 ++ wsX10 ++ (vx_atS RX2 47 "java/lang/IllegalArgumentException" ["java/lang/RuntimeException", "java/lang/Exception"]).filter goodWord ++ (vx_atS RX2 65 "java/lang/IllegalStateException" ["java/lang/RuntimeException", "java/lang/Exception"]).filter goodWord)
def wsL_lay : List Cond := .codeWith yL_lay cL_lay 6 (some .int) [(0, 12, 15, 13), (0, 12, 19, 15)] :: ([.classLink RL 13 "java/lang/IllegalArgumentException", .classLink RL 15 "java/lang/IllegalStateException", .methodLink RL 17 yX2_lay, .instanceMethod yX2_lay, .selects RX2 yX2_lay yX2_lay, .initialized RX2, .code yX2_lay cX2_lay 4 (some .int), .classLink RX2 43 "java/lang/IllegalArgumentException", .initialized "java/lang/IllegalArgumentException", .classLink RX2 61 "java/lang/IllegalStateException", .initialized "java/lang/IllegalStateException", .fieldLink RX2 10 "SledgeRace" "track" "LSledgeRace$Track;", .methodLink RX2 39 yX2_isOutside, .static yX2_isOutside, .code yX2_isOutside cX2_isOutside 3 (some .boolean), .methodLink RX2 58 yX1_putStretch, .instanceMethod yX1_putStretch, .selects RX1 yX1_putStretch yX1_putStretch, .initialized RX1, .code yX1_putStretch cX1_putStretch 5 (some .boolean), .fieldLink RX1 19 "SledgeRace$Track" "stretches" "I", .fieldLink RX1 9 "SledgeRace$Track" "starts" "[I", .fieldLink RX1 13 "SledgeRace$Track" "slopes" "[I", .fieldLink RX1 16 "SledgeRace$Track" "softnesses" "[I"] ++ wsX20 ++ wsX10 ++ (vx_atS RX2 47 "java/lang/IllegalArgumentException" ["java/lang/RuntimeException", "java/lang/Exception"]).filter goodWord ++ (vx_atS RX2 65 "java/lang/IllegalStateException" ["java/lang/RuntimeException", "java/lang/Exception"]).filter goodWord)
def wsL_ground_r1 : List Cond := [Cond.classLink RL 13 "java/lang/IllegalArgumentException", Cond.methodLink RL 21 yX2_ground, Cond.instanceMethod yX2_ground, Cond.selects RX2 yX2_ground yX2_ground, Cond.initialized RX2, Cond.code yX2_ground cX2_ground 3 (some .int), Cond.classLink RX2 43 "java/lang/IllegalArgumentException", Cond.initialized "java/lang/IllegalArgumentException", Cond.fieldLink RX2 10 "SledgeRace" "track" "LSledgeRace$Track;", Cond.methodLink RX2 39 yX2_isOutside, Cond.static yX2_isOutside, Cond.code yX2_isOutside cX2_isOutside 3 (some .boolean), Cond.methodLink RX2 71 yX1_groundAt, Cond.instanceMethod yX1_groundAt, Cond.selects RX1 yX1_groundAt yX1_groundAt, Cond.initialized RX1, Cond.code yX1_groundAt cX1_groundAt 8 (some .int), Cond.fieldLink RX1 16 "SledgeRace$Track" "softnesses" "[I", Cond.fieldLink RX1 13 "SledgeRace$Track" "slopes" "[I", Cond.methodLink RX1 26 Lib.Math.max.name, Cond.static Lib.Math.max.name, Cond.initialized "java/lang/Math", Cond.code Lib.Math.max.name Lib.Math.max.code 2 (some .int), Cond.fieldLink RX1 19 "SledgeRace$Track" "stretches" "I"]
def wsL_ground_r2 : List Cond := [Cond.fieldLink RX1 9 "SledgeRace$Track" "starts" "[I"]
def wsL_ground : List Cond := .codeWith yL_ground cL_ground 5 (some .int) [(0, 10, 13, 13)] :: ((wsL_ground_r1 ++ wsL_ground_r2) ++ wsX20 ++ wsX10 ++ (vx_atS RX2 47 "java/lang/IllegalArgumentException" ["java/lang/RuntimeException", "java/lang/Exception"]).filter goodWord)
def wsL_addTeam_r1 : List Cond := [Cond.classLink RL 13 "java/lang/IllegalArgumentException", Cond.classLink RL 15 "java/lang/IllegalStateException", Cond.methodLink RL 25 yX2_addTeam, Cond.instanceMethod yX2_addTeam, Cond.selects RX2 yX2_addTeam yX2_addTeam, Cond.initialized RX2, Cond.code yX2_addTeam cX2_addTeam 5 (some .int), Cond.classLink RX2 43 "java/lang/IllegalArgumentException", Cond.initialized "java/lang/IllegalArgumentException", Cond.classLink RX2 61 "java/lang/IllegalStateException", Cond.initialized "java/lang/IllegalStateException", Cond.fieldLink RX2 32 "SledgeRace" "teamCount" "I", Cond.fieldLink RX2 18 "SledgeRace" "teams" "[LSledgeRace$Team;", Cond.classLink RX2 16 RX0, Cond.instantiable RX0 20, Cond.initialized RX0, Cond.methodLink RX2 39 yX2_isOutside, Cond.static yX2_isOutside, Cond.code yX2_isOutside cX2_isOutside 3 (some .boolean), Cond.methodLink RX2 50 yX2_requireStart, Cond.instanceMethod yX2_requireStart, Cond.selects RX2 yX2_requireStart yX2_requireStart, Cond.code yX2_requireStart cX2_requireStart 1 none, Cond.fieldLink RX2 36 "SledgeRace" "tick" "I"]
def wsL_addTeam_r2 : List Cond := [Cond.methodLink RX2 22 yX0_init, Cond.instanceMethod yX0_init, Cond.code yX0_init cX0_init 5 none, Cond.methodLink RX0 1 objectInit, Cond.instanceMethod objectInit, Cond.code objectInit ⟨#[0xb1]⟩ 1 none, Cond.fieldLink RX0 7 "SledgeRace$Team" "number" "I", Cond.fieldLink RX0 13 "SledgeRace$Team" "length" "I", Cond.fieldLink RX0 16 "SledgeRace$Team" "weight" "I", Cond.fieldLink RX0 19 "SledgeRace$Team" "rollers" "I", Cond.fieldLink RX0 22 "SledgeRace$Team" "pullers" "I", Cond.fieldLink RX0 25 "SledgeRace$Team" "strength" "I", Cond.fieldLink RX0 28 "SledgeRace$Team" "runners" "I", Cond.fieldLink RX0 31 "SledgeRace$Team" "wholeRope" "I", Cond.fieldLink RX0 34 "SledgeRace$Team" "effort" "I", Cond.fieldLink RX0 37 "SledgeRace$Team" "gap" "I", Cond.arrayClass .int, Cond.fieldLink RX0 40 "SledgeRace$Team" "places" "[I", Cond.fieldLink RX0 44 "SledgeRace$Team" "loads" "[I", Cond.fieldLink RX0 47 "SledgeRace$Team" "ticksToGo" "[I", Cond.methodLink RX0 50 yX0_goToStart, Cond.instanceMethod yX0_goToStart, Cond.selects RX0 yX0_goToStart yX0_goToStart, Cond.code yX0_goToStart cX0_goToStart 2 none]
def wsL_addTeam_r3 : List Cond := [Cond.fieldLink RX0 53 "SledgeRace$Team" "front" "I", Cond.fieldLink RX0 56 "SledgeRace$Team" "breath" "I", Cond.fieldLink RX0 59 "SledgeRace$Team" "rope" "I", Cond.fieldLink RX0 62 "SledgeRace$Team" "knotting" "I", Cond.fieldLink RX0 65 "SledgeRace$Team" "breaks" "I", Cond.fieldLink RX0 68 "SledgeRace$Team" "way" "I", Cond.fieldLink RX0 71 "SledgeRace$Team" "endTick" "I"]
def wsL_addTeam : List Cond := .codeWith yL_addTeam cL_addTeam 6 (some .int) [(0, 12, 15, 13), (0, 12, 19, 15)] :: ((wsL_addTeam_r1 ++ (wsL_addTeam_r2 ++ wsL_addTeam_r3)) ++ wsX20 ++ wsX00 ++ (vx_atS RX2 47 "java/lang/IllegalArgumentException" ["java/lang/RuntimeException", "java/lang/Exception"]).filter goodWord ++ (vx_atS RX2 65 "java/lang/IllegalStateException" ["java/lang/RuntimeException", "java/lang/Exception"]).filter goodWord)
def wsL_setCrew_r1 : List Cond := [Cond.classLink RL 32 "java/lang/IndexOutOfBoundsException", Cond.classLink RL 13 "java/lang/IllegalArgumentException", Cond.classLink RL 15 "java/lang/IllegalStateException", Cond.methodLink RL 28 yX2_setCrew, Cond.instanceMethod yX2_setCrew, Cond.selects RX2 yX2_setCrew yX2_setCrew, Cond.initialized RX2, Cond.code yX2_setCrew cX2_setCrew 8 (some .int), Cond.classLink RX2 43 "java/lang/IllegalArgumentException", Cond.initialized "java/lang/IllegalArgumentException", Cond.methodLink RX2 79 yX2_teamNumbered, Cond.instanceMethod yX2_teamNumbered, Cond.selects RX2 yX2_teamNumbered yX2_teamNumbered, Cond.code yX2_teamNumbered cX2_teamNumbered 3 (some (.object "SledgeRace$Team")), Cond.classLink RX2 122 "java/lang/IndexOutOfBoundsException", Cond.initialized "java/lang/IndexOutOfBoundsException", Cond.fieldLink RX2 18 "SledgeRace" "teams" "[LSledgeRace$Team;", Cond.methodLink RX2 39 yX2_isOutside, Cond.static yX2_isOutside, Cond.code yX2_isOutside cX2_isOutside 3 (some .boolean), Cond.methodLink RX2 50 yX2_requireStart, Cond.instanceMethod yX2_requireStart, Cond.selects RX2 yX2_requireStart yX2_requireStart, Cond.code yX2_requireStart cX2_requireStart 1 none]
def wsL_setCrew_r2 : List Cond := [Cond.classLink RX2 61 "java/lang/IllegalStateException", Cond.initialized "java/lang/IllegalStateException", Cond.fieldLink RX2 36 "SledgeRace" "tick" "I"]
def wsL_setCrew : List Cond := .codeWith yL_setCrew cL_setCrew 8 (some .int) [(0, 16, 19, 32), (0, 16, 23, 13), (0, 16, 27, 15)] :: ((wsL_setCrew_r1 ++ wsL_setCrew_r2) ++ wsX00 ++ wsX20 ++ (vx_atS RX2 47 "java/lang/IllegalArgumentException" ["java/lang/RuntimeException", "java/lang/Exception"]).filter goodWord ++ (vx_atS RX2 126 "java/lang/IndexOutOfBoundsException" ["java/lang/RuntimeException", "java/lang/Exception"]).filter goodWord ++ (vx_atS RX2 65 "java/lang/IllegalStateException" ["java/lang/RuntimeException", "java/lang/Exception"]).filter goodWord)
def wsL_order : List Cond := .codeWith yL_order cL_order 6 (some .int) [(0, 12, 15, 32), (0, 12, 19, 13)] :: ([.classLink RL 32 "java/lang/IndexOutOfBoundsException", .classLink RL 13 "java/lang/IllegalArgumentException", .methodLink RL 34 yX2_order, .instanceMethod yX2_order, .selects RX2 yX2_order yX2_order, .initialized RX2, .code yX2_order cX2_order 6 (some .int), .classLink RX2 43 "java/lang/IllegalArgumentException", .initialized "java/lang/IllegalArgumentException", .methodLink RX2 79 yX2_teamNumbered, .instanceMethod yX2_teamNumbered, .selects RX2 yX2_teamNumbered yX2_teamNumbered, .code yX2_teamNumbered cX2_teamNumbered 3 (some (.object "SledgeRace$Team")), .classLink RX2 122 "java/lang/IndexOutOfBoundsException", .initialized "java/lang/IndexOutOfBoundsException", .fieldLink RX2 18 "SledgeRace" "teams" "[LSledgeRace$Team;", .methodLink RX2 39 yX2_isOutside, .static yX2_isOutside, .code yX2_isOutside cX2_isOutside 3 (some .boolean)] ++ wsX00 ++ wsX20 ++ (vx_atS RX2 47 "java/lang/IllegalArgumentException" ["java/lang/RuntimeException", "java/lang/Exception"]).filter goodWord ++ (vx_atS RX2 126 "java/lang/IndexOutOfBoundsException" ["java/lang/RuntimeException", "java/lang/Exception"]).filter goodWord)
def wsL_run_r1 : List Cond := [Cond.classLink RL 13 "java/lang/IllegalArgumentException", Cond.classLink RL 15 "java/lang/IllegalStateException", Cond.methodLink RL 37 yX2_run, Cond.instanceMethod yX2_run, Cond.selects RX2 yX2_run yX2_run, Cond.initialized RX2, Cond.code yX2_run cX2_run 3 (some .int), Cond.classLink RX2 43 "java/lang/IllegalArgumentException", Cond.initialized "java/lang/IllegalArgumentException", Cond.classLink RX2 61 "java/lang/IllegalStateException", Cond.initialized "java/lang/IllegalStateException", Cond.fieldLink RX2 32 "SledgeRace" "teamCount" "I", Cond.methodLink RX2 39 yX2_isOutside, Cond.static yX2_isOutside, Cond.code yX2_isOutside cX2_isOutside 3 (some .boolean), Cond.methodLink RX2 112 yX2_passTick, Cond.instanceMethod yX2_passTick, Cond.selects RX2 yX2_passTick yX2_passTick, Cond.code yX2_passTick cX2_passTick 5 none, Cond.fieldLink RX2 36 "SledgeRace" "tick" "I", Cond.fieldLink RX2 18 "SledgeRace" "teams" "[LSledgeRace$Team;", Cond.fieldLink RX2 10 "SledgeRace" "track" "LSledgeRace$Track;", Cond.methodLink RX2 194 yX0_passTick, Cond.instanceMethod yX0_passTick]
def wsL_run_r2 : List Cond := [Cond.selects RX0 yX0_passTick yX0_passTick, Cond.initialized RX0, Cond.code yX0_passTick cX0_passTick 4 none, Cond.fieldLink RX0 62 "SledgeRace$Team" "knotting" "I", Cond.fieldLink RX0 59 "SledgeRace$Team" "rope" "I", Cond.fieldLink RX0 68 "SledgeRace$Team" "way" "I", Cond.fieldLink RX0 34 "SledgeRace$Team" "effort" "I", Cond.fieldLink RX0 53 "SledgeRace$Team" "front" "I", Cond.fieldLink RX0 71 "SledgeRace$Team" "endTick" "I", Cond.methodLink RX0 78 yX0_isAtEnd, Cond.instanceMethod yX0_isAtEnd, Cond.selects RX0 yX0_isAtEnd yX0_isAtEnd, Cond.code yX0_isAtEnd cX0_isAtEnd 1 (some .boolean), Cond.methodLink RX0 82 yX0_pull, Cond.instanceMethod yX0_pull, Cond.selects RX0 yX0_pull yX0_pull, Cond.code yX0_pull cX0_pull 1 (some .int), Cond.fieldLink RX0 22 "SledgeRace$Team" "pullers" "I", Cond.fieldLink RX0 25 "SledgeRace$Team" "strength" "I", Cond.fieldLink RX0 56 "SledgeRace$Team" "breath" "I", Cond.methodLink RX0 86 yX0_breakRope, Cond.instanceMethod yX0_breakRope, Cond.selects RX0 yX0_breakRope yX0_breakRope, Cond.code yX0_breakRope cX0_breakRope 1 none]
def wsL_run_r3 : List Cond := [Cond.methodLink RX0 110 Lib.Math.max.name, Cond.static Lib.Math.max.name, Cond.initialized "java/lang/Math", Cond.code Lib.Math.max.name Lib.Math.max.code 2 (some .int), Cond.fieldLink RX0 65 "SledgeRace$Team" "breaks" "I", Cond.methodLink RX0 89 yX0_breathe, Cond.instanceMethod yX0_breathe, Cond.selects RX0 yX0_breathe yX0_breathe, Cond.code yX0_breathe cX0_breathe 3 none, Cond.methodLink RX0 123 Lib.Math.min.name, Cond.static Lib.Math.min.name, Cond.code Lib.Math.min.name Lib.Math.min.code 2 (some .int), Cond.methodLink RX0 93 yX0_drag, Cond.instanceMethod yX0_drag, Cond.selects RX0 yX0_drag yX0_drag, Cond.code yX0_drag cX0_drag 8 (some .int), Cond.fieldLink RX0 16 "SledgeRace$Team" "weight" "I", Cond.methodLink RX0 115 yX1_groundAt, Cond.instanceMethod yX1_groundAt, Cond.selects RX1 yX1_groundAt yX1_groundAt, Cond.initialized RX1, Cond.code yX1_groundAt cX1_groundAt 8 (some .int), Cond.fieldLink RX1 16 "SledgeRace$Track" "softnesses" "[I", Cond.fieldLink RX1 13 "SledgeRace$Track" "slopes" "[I"]
def wsL_run_r4 : List Cond := [Cond.methodLink RX1 26 Lib.Math.max.name, Cond.fieldLink RX1 19 "SledgeRace$Track" "stretches" "I", Cond.fieldLink RX1 9 "SledgeRace$Track" "starts" "[I", Cond.methodLink RX0 119 yX0_rollersLying, Cond.instanceMethod yX0_rollersLying, Cond.selects RX0 yX0_rollersLying yX0_rollersLying, Cond.code yX0_rollersLying cX0_rollersLying 4 (some .int), Cond.fieldLink RX0 19 "SledgeRace$Team" "rollers" "I", Cond.fieldLink RX0 40 "SledgeRace$Team" "places" "[I", Cond.methodLink RX0 126 yX0_sideOf, Cond.instanceMethod yX0_sideOf, Cond.selects RX0 yX0_sideOf yX0_sideOf, Cond.code yX0_sideOf cX0_sideOf 2 (some .int), Cond.fieldLink RX0 13 "SledgeRace$Team" "length" "I", Cond.methodLink RX0 97 yX0_wayWith, Cond.instanceMethod yX0_wayWith, Cond.selects RX0 yX0_wayWith yX0_wayWith, Cond.code yX0_wayWith cX0_wayWith 3 (some .int), Cond.methodLink RX0 101 yX0_moveOn, Cond.instanceMethod yX0_moveOn, Cond.selects RX0 yX0_moveOn yX0_moveOn, Cond.code yX0_moveOn cX0_moveOn 2 none, Cond.methodLink RX0 104 yX0_sendRunners, Cond.instanceMethod yX0_sendRunners]
def wsL_run_r5 : List Cond := [Cond.selects RX0 yX0_sendRunners yX0_sendRunners, Cond.code yX0_sendRunners cX0_sendRunners 4 none, Cond.fieldLink RX0 28 "SledgeRace$Team" "runners" "I", Cond.fieldLink RX0 44 "SledgeRace$Team" "loads" "[I", Cond.fieldLink RX0 47 "SledgeRace$Team" "ticksToGo" "[I", Cond.fieldLink RX0 37 "SledgeRace$Team" "gap" "I", Cond.methodLink RX0 129 yX0_lastBehind, Cond.instanceMethod yX0_lastBehind, Cond.selects RX0 yX0_lastBehind yX0_lastBehind, Cond.code yX0_lastBehind cX0_lastBehind 4 (some .int), Cond.methodLink RX2 115 yX2_teamsAtEnd, Cond.instanceMethod yX2_teamsAtEnd, Cond.selects RX2 yX2_teamsAtEnd yX2_teamsAtEnd, Cond.code yX2_teamsAtEnd cX2_teamsAtEnd 6 (some .int), Cond.methodLink RX2 215 yX0_isAtEnd]
def wsL_run : List Cond := .codeWith yL_run cL_run 4 (some .int) [(0, 9, 12, 13), (0, 9, 15, 15)] :: ((wsL_run_r1 ++ (wsL_run_r2 ++ (wsL_run_r3 ++ (wsL_run_r4 ++ wsL_run_r5)))) ++ wsX20 ++ wsX00 ++ wsX10 ++ (vx_atS RX2 47 "java/lang/IllegalArgumentException" ["java/lang/RuntimeException", "java/lang/Exception"]).filter goodWord ++ (vx_atS RX2 65 "java/lang/IllegalStateException" ["java/lang/RuntimeException", "java/lang/Exception"]).filter goodWord)
def wsL_count_r1 : List Cond := [Cond.classLink RL 32 "java/lang/IndexOutOfBoundsException", Cond.methodLink RL 40 yX2_count, Cond.instanceMethod yX2_count, Cond.selects RX2 yX2_count yX2_count, Cond.initialized RX2, Cond.code yX2_count cX2_count 2 (some .int), Cond.classLink RX2 122 "java/lang/IndexOutOfBoundsException", Cond.initialized "java/lang/IndexOutOfBoundsException", Cond.methodLink RX2 39 yX2_isOutside, Cond.static yX2_isOutside, Cond.code yX2_isOutside cX2_isOutside 3 (some .boolean), Cond.methodLink RX2 127 yX2_countOf, Cond.instanceMethod yX2_countOf, Cond.selects RX2 yX2_countOf yX2_countOf, Cond.code yX2_countOf cX2_countOf 2 (some .int), Cond.fieldLink RX2 36 "SledgeRace" "tick" "I", Cond.fieldLink RX2 32 "SledgeRace" "teamCount" "I", Cond.fieldLink RX2 10 "SledgeRace" "track" "LSledgeRace$Track;", Cond.methodLink RX2 115 yX2_teamsAtEnd, Cond.instanceMethod yX2_teamsAtEnd, Cond.selects RX2 yX2_teamsAtEnd yX2_teamsAtEnd, Cond.code yX2_teamsAtEnd cX2_teamsAtEnd 6 (some .int), Cond.fieldLink RX2 18 "SledgeRace" "teams" "[LSledgeRace$Team;", Cond.methodLink RX2 215 yX0_isAtEnd]
def wsL_count_r2 : List Cond := [Cond.instanceMethod yX0_isAtEnd, Cond.selects RX0 yX0_isAtEnd yX0_isAtEnd, Cond.initialized RX0, Cond.code yX0_isAtEnd cX0_isAtEnd 1 (some .boolean), Cond.fieldLink RX0 71 "SledgeRace$Team" "endTick" "I", Cond.methodLink RX2 212 yX2_ropesBroken, Cond.instanceMethod yX2_ropesBroken, Cond.selects RX2 yX2_ropesBroken yX2_ropesBroken, Cond.code yX2_ropesBroken cX2_ropesBroken 6 (some .int)]
def wsL_count : List Cond := .codeWith yL_count cL_count 4 (some .int) [(0, 9, 12, 32)] :: ((wsL_count_r1 ++ wsL_count_r2) ++ wsX20 ++ wsX10 ++ wsX00 ++ (vx_atS RX2 126 "java/lang/IndexOutOfBoundsException" ["java/lang/RuntimeException", "java/lang/Exception"]).filter goodWord)
def wsL_team_r1 : List Cond := [Cond.classLink RL 32 "java/lang/IndexOutOfBoundsException", Cond.methodLink RL 43 yX2_team, Cond.instanceMethod yX2_team, Cond.selects RX2 yX2_team yX2_team, Cond.initialized RX2, Cond.code yX2_team cX2_team 4 (some .int), Cond.classLink RX2 122 "java/lang/IndexOutOfBoundsException", Cond.initialized "java/lang/IndexOutOfBoundsException", Cond.methodLink RX2 79 yX2_teamNumbered, Cond.instanceMethod yX2_teamNumbered, Cond.selects RX2 yX2_teamNumbered yX2_teamNumbered, Cond.code yX2_teamNumbered cX2_teamNumbered 3 (some (.object "SledgeRace$Team")), Cond.fieldLink RX2 18 "SledgeRace" "teams" "[LSledgeRace$Team;", Cond.methodLink RX2 39 yX2_isOutside, Cond.static yX2_isOutside, Cond.code yX2_isOutside cX2_isOutside 3 (some .boolean), Cond.methodLink RX2 133 yX0_fact, Cond.instanceMethod yX0_fact, Cond.selects RX0 yX0_fact yX0_fact, Cond.initialized RX0, Cond.code yX0_fact cX0_fact 2 (some .int), Cond.fieldLink RX0 53 "SledgeRace$Team" "front" "I", Cond.fieldLink RX0 56 "SledgeRace$Team" "breath" "I", Cond.fieldLink RX0 59 "SledgeRace$Team" "rope" "I"]
def wsL_team_r2 : List Cond := [Cond.fieldLink RX0 62 "SledgeRace$Team" "knotting" "I", Cond.fieldLink RX0 71 "SledgeRace$Team" "endTick" "I", Cond.fieldLink RX0 34 "SledgeRace$Team" "effort" "I", Cond.fieldLink RX0 37 "SledgeRace$Team" "gap" "I", Cond.fieldLink RX0 68 "SledgeRace$Team" "way" "I", Cond.methodLink RX0 119 yX0_rollersLying, Cond.instanceMethod yX0_rollersLying, Cond.selects RX0 yX0_rollersLying yX0_rollersLying, Cond.code yX0_rollersLying cX0_rollersLying 4 (some .int), Cond.fieldLink RX0 19 "SledgeRace$Team" "rollers" "I", Cond.fieldLink RX0 40 "SledgeRace$Team" "places" "[I", Cond.methodLink RX0 126 yX0_sideOf, Cond.instanceMethod yX0_sideOf, Cond.selects RX0 yX0_sideOf yX0_sideOf, Cond.code yX0_sideOf cX0_sideOf 2 (some .int), Cond.fieldLink RX0 13 "SledgeRace$Team" "length" "I"]
def wsL_team : List Cond := .codeWith yL_team cL_team 5 (some .int) [(0, 10, 13, 32)] :: ((wsL_team_r1 ++ wsL_team_r2) ++ wsX20 ++ wsX00 ++ (vx_atS RX2 126 "java/lang/IndexOutOfBoundsException" ["java/lang/RuntimeException", "java/lang/Exception"]).filter goodWord)
def wsL_roller : List Cond := .codeWith yL_roller cL_roller 5 (some .int) [(0, 10, 13, 32), (0, 10, 17, 15)] :: ([.classLink RL 32 "java/lang/IndexOutOfBoundsException", .classLink RL 15 "java/lang/IllegalStateException", .methodLink RL 47 yX2_roller, .instanceMethod yX2_roller, .selects RX2 yX2_roller yX2_roller, .initialized RX2, .code yX2_roller cX2_roller 5 (some .int), .classLink RX2 122 "java/lang/IndexOutOfBoundsException", .initialized "java/lang/IndexOutOfBoundsException", .classLink RX2 61 "java/lang/IllegalStateException", .initialized "java/lang/IllegalStateException", .methodLink RX2 79 yX2_teamNumbered, .instanceMethod yX2_teamNumbered, .selects RX2 yX2_teamNumbered yX2_teamNumbered, .code yX2_teamNumbered cX2_teamNumbered 3 (some (.object "SledgeRace$Team")), .fieldLink RX2 18 "SledgeRace" "teams" "[LSledgeRace$Team;"] ++ wsX00 ++ wsX20 ++ (vx_atS RX2 126 "java/lang/IndexOutOfBoundsException" ["java/lang/RuntimeException", "java/lang/Exception"]).filter goodWord ++ (vx_atS RX2 65 "java/lang/IllegalStateException" ["java/lang/RuntimeException", "java/lang/Exception"]).filter goodWord)
def wsL_next_r1 : List Cond := [Cond.classLink RL 32 "java/lang/IndexOutOfBoundsException", Cond.methodLink RL 50 yX2_next, Cond.instanceMethod yX2_next, Cond.selects RX2 yX2_next yX2_next, Cond.initialized RX2, Cond.code yX2_next cX2_next 4 (some .int), Cond.classLink RX2 122 "java/lang/IndexOutOfBoundsException", Cond.initialized "java/lang/IndexOutOfBoundsException", Cond.fieldLink RX2 10 "SledgeRace" "track" "LSledgeRace$Track;", Cond.methodLink RX2 79 yX2_teamNumbered, Cond.instanceMethod yX2_teamNumbered, Cond.selects RX2 yX2_teamNumbered yX2_teamNumbered, Cond.code yX2_teamNumbered cX2_teamNumbered 3 (some (.object "SledgeRace$Team")), Cond.fieldLink RX2 18 "SledgeRace" "teams" "[LSledgeRace$Team;", Cond.methodLink RX2 39 yX2_isOutside, Cond.static yX2_isOutside, Cond.code yX2_isOutside cX2_isOutside 3 (some .boolean), Cond.methodLink RX2 149 yX0_pull, Cond.instanceMethod yX0_pull, Cond.selects RX0 yX0_pull yX0_pull, Cond.initialized RX0, Cond.code yX0_pull cX0_pull 1 (some .int), Cond.fieldLink RX0 22 "SledgeRace$Team" "pullers" "I", Cond.fieldLink RX0 25 "SledgeRace$Team" "strength" "I"]
def wsL_next_r2 : List Cond := [Cond.fieldLink RX0 34 "SledgeRace$Team" "effort" "I", Cond.fieldLink RX0 56 "SledgeRace$Team" "breath" "I", Cond.methodLink RX2 152 yX0_drag, Cond.instanceMethod yX0_drag, Cond.selects RX0 yX0_drag yX0_drag, Cond.code yX0_drag cX0_drag 8 (some .int), Cond.fieldLink RX0 53 "SledgeRace$Team" "front" "I", Cond.fieldLink RX0 16 "SledgeRace$Team" "weight" "I", Cond.methodLink RX0 110 Lib.Math.max.name, Cond.static Lib.Math.max.name, Cond.initialized "java/lang/Math", Cond.code Lib.Math.max.name Lib.Math.max.code 2 (some .int), Cond.methodLink RX0 123 Lib.Math.min.name, Cond.static Lib.Math.min.name, Cond.code Lib.Math.min.name Lib.Math.min.code 2 (some .int), Cond.methodLink RX0 115 yX1_groundAt, Cond.instanceMethod yX1_groundAt, Cond.selects RX1 yX1_groundAt yX1_groundAt, Cond.initialized RX1, Cond.code yX1_groundAt cX1_groundAt 8 (some .int), Cond.fieldLink RX1 16 "SledgeRace$Track" "softnesses" "[I", Cond.fieldLink RX1 13 "SledgeRace$Track" "slopes" "[I", Cond.methodLink RX1 26 Lib.Math.max.name, Cond.fieldLink RX1 19 "SledgeRace$Track" "stretches" "I"]
def wsL_next_r3 : List Cond := [Cond.fieldLink RX1 9 "SledgeRace$Track" "starts" "[I", Cond.methodLink RX0 119 yX0_rollersLying, Cond.instanceMethod yX0_rollersLying, Cond.selects RX0 yX0_rollersLying yX0_rollersLying, Cond.code yX0_rollersLying cX0_rollersLying 4 (some .int), Cond.fieldLink RX0 19 "SledgeRace$Team" "rollers" "I", Cond.fieldLink RX0 40 "SledgeRace$Team" "places" "[I", Cond.methodLink RX0 126 yX0_sideOf, Cond.instanceMethod yX0_sideOf, Cond.selects RX0 yX0_sideOf yX0_sideOf, Cond.code yX0_sideOf cX0_sideOf 2 (some .int), Cond.fieldLink RX0 13 "SledgeRace$Team" "length" "I", Cond.methodLink RX2 156 yX0_wayWith, Cond.instanceMethod yX0_wayWith, Cond.selects RX0 yX0_wayWith yX0_wayWith, Cond.code yX0_wayWith cX0_wayWith 3 (some .int)]
def wsL_next : List Cond := .codeWith yL_next cL_next 5 (some .int) [(0, 10, 13, 32)] :: ((wsL_next_r1 ++ (wsL_next_r2 ++ wsL_next_r3)) ++ wsX20 ++ wsX00 ++ wsX10 ++ (vx_atS RX2 126 "java/lang/IndexOutOfBoundsException" ["java/lang/RuntimeException", "java/lang/Exception"]).filter goodWord)
def wsL_ranked_r1 : List Cond := [Cond.classLink RL 32 "java/lang/IndexOutOfBoundsException", Cond.methodLink RL 53 yX2_ranked, Cond.instanceMethod yX2_ranked, Cond.selects RX2 yX2_ranked yX2_ranked, Cond.initialized RX2, Cond.code yX2_ranked cX2_ranked 2 (some .int), Cond.classLink RX2 122 "java/lang/IndexOutOfBoundsException", Cond.initialized "java/lang/IndexOutOfBoundsException", Cond.fieldLink RX2 32 "SledgeRace" "teamCount" "I", Cond.methodLink RX2 162 yX2_teamAtRank, Cond.instanceMethod yX2_teamAtRank, Cond.selects RX2 yX2_teamAtRank yX2_teamAtRank, Cond.code yX2_teamAtRank cX2_teamAtRank 6 (some .int), Cond.fieldLink RX2 18 "SledgeRace" "teams" "[LSledgeRace$Team;", Cond.methodLink RX2 205 yX2_rankOf, Cond.instanceMethod yX2_rankOf, Cond.selects RX2 yX2_rankOf yX2_rankOf, Cond.code yX2_rankOf cX2_rankOf 7 (some .int), Cond.methodLink RX2 201 yX0_isAheadOf, Cond.instanceMethod yX0_isAheadOf, Cond.selects RX0 yX0_isAheadOf yX0_isAheadOf, Cond.initialized RX0, Cond.code yX0_isAheadOf cX0_isAheadOf 2 (some .boolean), Cond.fieldLink RX0 71 "SledgeRace$Team" "endTick" "I"]
def wsL_ranked_r2 : List Cond := [Cond.fieldLink RX0 53 "SledgeRace$Team" "front" "I", Cond.fieldLink RX0 7 "SledgeRace$Team" "number" "I", Cond.methodLink RX0 78 yX0_isAtEnd, Cond.instanceMethod yX0_isAtEnd, Cond.selects RX0 yX0_isAtEnd yX0_isAtEnd, Cond.code yX0_isAtEnd cX0_isAtEnd 1 (some .boolean)]
def wsL_ranked : List Cond := .codeWith yL_ranked cL_ranked 4 (some .int) [(0, 9, 12, 32)] :: ((wsL_ranked_r1 ++ wsL_ranked_r2) ++ wsX20 ++ wsX00 ++ (vx_atS RX2 126 "java/lang/IndexOutOfBoundsException" ["java/lang/RuntimeException", "java/lang/Exception"]).filter goodWord)
def wsL_foresee_r1 : List Cond := [Cond.classLink RL 32 "java/lang/IndexOutOfBoundsException", Cond.classLink RL 13 "java/lang/IllegalArgumentException", Cond.methodLink RL 56 yX2_foresee, Cond.instanceMethod yX2_foresee, Cond.selects RX2 yX2_foresee yX2_foresee, Cond.initialized RX2, Cond.code yX2_foresee cX2_foresee 5 (some .int), Cond.classLink RX2 122 "java/lang/IndexOutOfBoundsException", Cond.initialized "java/lang/IndexOutOfBoundsException", Cond.classLink RX2 43 "java/lang/IllegalArgumentException", Cond.initialized "java/lang/IllegalArgumentException", Cond.fieldLink RX2 25 "SledgeRace" "trial" "LSledgeRace$Team;", Cond.methodLink RX2 79 yX2_teamNumbered, Cond.instanceMethod yX2_teamNumbered, Cond.selects RX2 yX2_teamNumbered yX2_teamNumbered, Cond.code yX2_teamNumbered cX2_teamNumbered 3 (some (.object "SledgeRace$Team")), Cond.fieldLink RX2 18 "SledgeRace" "teams" "[LSledgeRace$Team;", Cond.methodLink RX2 39 yX2_isOutside, Cond.static yX2_isOutside, Cond.code yX2_isOutside cX2_isOutside 3 (some .boolean), Cond.methodLink RX2 167 yX2_lookAhead, Cond.instanceMethod yX2_lookAhead, Cond.selects RX2 yX2_lookAhead yX2_lookAhead, Cond.code yX2_lookAhead cX2_lookAhead 6 none]
def wsL_foresee_r2 : List Cond := [Cond.fieldLink RX2 36 "SledgeRace" "tick" "I", Cond.fieldLink RX2 10 "SledgeRace" "track" "LSledgeRace$Track;", Cond.methodLink RX2 197 yX0_copyFrom, Cond.instanceMethod yX0_copyFrom, Cond.selects RX0 yX0_copyFrom yX0_copyFrom, Cond.initialized RX0, Cond.code yX0_copyFrom cX0_copyFrom 2 none, Cond.fieldLink RX0 7 "SledgeRace$Team" "number" "I", Cond.fieldLink RX0 13 "SledgeRace$Team" "length" "I", Cond.fieldLink RX0 16 "SledgeRace$Team" "weight" "I", Cond.fieldLink RX0 19 "SledgeRace$Team" "rollers" "I", Cond.fieldLink RX0 22 "SledgeRace$Team" "pullers" "I", Cond.fieldLink RX0 25 "SledgeRace$Team" "strength" "I", Cond.fieldLink RX0 28 "SledgeRace$Team" "runners" "I", Cond.fieldLink RX0 31 "SledgeRace$Team" "wholeRope" "I", Cond.fieldLink RX0 34 "SledgeRace$Team" "effort" "I", Cond.fieldLink RX0 37 "SledgeRace$Team" "gap" "I", Cond.fieldLink RX0 53 "SledgeRace$Team" "front" "I", Cond.fieldLink RX0 56 "SledgeRace$Team" "breath" "I", Cond.fieldLink RX0 59 "SledgeRace$Team" "rope" "I", Cond.fieldLink RX0 62 "SledgeRace$Team" "knotting" "I", Cond.fieldLink RX0 65 "SledgeRace$Team" "breaks" "I", Cond.fieldLink RX0 68 "SledgeRace$Team" "way" "I", Cond.fieldLink RX0 71 "SledgeRace$Team" "endTick" "I"]
def wsL_foresee_r3 : List Cond := [Cond.fieldLink RX0 40 "SledgeRace$Team" "places" "[I", Cond.fieldLink RX0 44 "SledgeRace$Team" "loads" "[I", Cond.fieldLink RX0 47 "SledgeRace$Team" "ticksToGo" "[I", Cond.methodLink RX0 74 yX0_copyRow, Cond.static yX0_copyRow, Cond.code yX0_copyRow cX0_copyRow 3 none, Cond.methodLink RX2 194 yX0_passTick, Cond.instanceMethod yX0_passTick, Cond.selects RX0 yX0_passTick yX0_passTick, Cond.code yX0_passTick cX0_passTick 4 none, Cond.methodLink RX0 78 yX0_isAtEnd, Cond.instanceMethod yX0_isAtEnd, Cond.selects RX0 yX0_isAtEnd yX0_isAtEnd, Cond.code yX0_isAtEnd cX0_isAtEnd 1 (some .boolean), Cond.methodLink RX0 82 yX0_pull, Cond.instanceMethod yX0_pull, Cond.selects RX0 yX0_pull yX0_pull, Cond.code yX0_pull cX0_pull 1 (some .int), Cond.methodLink RX0 86 yX0_breakRope, Cond.instanceMethod yX0_breakRope, Cond.selects RX0 yX0_breakRope yX0_breakRope, Cond.code yX0_breakRope cX0_breakRope 1 none, Cond.methodLink RX0 110 Lib.Math.max.name, Cond.static Lib.Math.max.name]
def wsL_foresee_r4 : List Cond := [Cond.initialized "java/lang/Math", Cond.code Lib.Math.max.name Lib.Math.max.code 2 (some .int), Cond.methodLink RX0 89 yX0_breathe, Cond.instanceMethod yX0_breathe, Cond.selects RX0 yX0_breathe yX0_breathe, Cond.code yX0_breathe cX0_breathe 3 none, Cond.methodLink RX0 123 Lib.Math.min.name, Cond.static Lib.Math.min.name, Cond.code Lib.Math.min.name Lib.Math.min.code 2 (some .int), Cond.methodLink RX0 93 yX0_drag, Cond.instanceMethod yX0_drag, Cond.selects RX0 yX0_drag yX0_drag, Cond.code yX0_drag cX0_drag 8 (some .int), Cond.methodLink RX0 115 yX1_groundAt, Cond.instanceMethod yX1_groundAt, Cond.selects RX1 yX1_groundAt yX1_groundAt, Cond.initialized RX1, Cond.code yX1_groundAt cX1_groundAt 8 (some .int), Cond.fieldLink RX1 16 "SledgeRace$Track" "softnesses" "[I", Cond.fieldLink RX1 13 "SledgeRace$Track" "slopes" "[I", Cond.methodLink RX1 26 Lib.Math.max.name, Cond.fieldLink RX1 19 "SledgeRace$Track" "stretches" "I", Cond.fieldLink RX1 9 "SledgeRace$Track" "starts" "[I", Cond.methodLink RX0 119 yX0_rollersLying]
def wsL_foresee_r5 : List Cond := [Cond.instanceMethod yX0_rollersLying, Cond.selects RX0 yX0_rollersLying yX0_rollersLying, Cond.code yX0_rollersLying cX0_rollersLying 4 (some .int), Cond.methodLink RX0 126 yX0_sideOf, Cond.instanceMethod yX0_sideOf, Cond.selects RX0 yX0_sideOf yX0_sideOf, Cond.code yX0_sideOf cX0_sideOf 2 (some .int), Cond.methodLink RX0 97 yX0_wayWith, Cond.instanceMethod yX0_wayWith, Cond.selects RX0 yX0_wayWith yX0_wayWith, Cond.code yX0_wayWith cX0_wayWith 3 (some .int), Cond.methodLink RX0 101 yX0_moveOn, Cond.instanceMethod yX0_moveOn, Cond.selects RX0 yX0_moveOn yX0_moveOn, Cond.code yX0_moveOn cX0_moveOn 2 none, Cond.methodLink RX0 104 yX0_sendRunners, Cond.instanceMethod yX0_sendRunners, Cond.selects RX0 yX0_sendRunners yX0_sendRunners, Cond.code yX0_sendRunners cX0_sendRunners 4 none, Cond.methodLink RX0 129 yX0_lastBehind, Cond.instanceMethod yX0_lastBehind, Cond.selects RX0 yX0_lastBehind yX0_lastBehind, Cond.code yX0_lastBehind cX0_lastBehind 4 (some .int), Cond.methodLink RX2 174 yX2_rankOfTrialAmongRivals]
def wsL_foresee_r6 : List Cond := [Cond.instanceMethod yX2_rankOfTrialAmongRivals, Cond.selects RX2 yX2_rankOfTrialAmongRivals yX2_rankOfTrialAmongRivals, Cond.code yX2_rankOfTrialAmongRivals cX2_rankOfTrialAmongRivals 7 (some .int), Cond.fieldLink RX2 29 "SledgeRace" "rival" "LSledgeRace$Team;", Cond.methodLink RX2 201 yX0_isAheadOf, Cond.instanceMethod yX0_isAheadOf, Cond.selects RX0 yX0_isAheadOf yX0_isAheadOf, Cond.code yX0_isAheadOf cX0_isAheadOf 2 (some .boolean)]
def wsL_foresee : List Cond := .codeWith yL_foresee cL_foresee 6 (some .int) [(0, 12, 15, 32), (0, 12, 19, 13)] :: ((wsL_foresee_r1 ++ (wsL_foresee_r2 ++ (wsL_foresee_r3 ++ (wsL_foresee_r4 ++ (wsL_foresee_r5 ++ wsL_foresee_r6))))) ++ wsX20 ++ wsX00 ++ wsX10 ++ (vx_atS RX2 126 "java/lang/IndexOutOfBoundsException" ["java/lang/RuntimeException", "java/lang/Exception"]).filter goodWord ++ (vx_atS RX2 47 "java/lang/IllegalArgumentException" ["java/lang/RuntimeException", "java/lang/Exception"]).filter goodWord)
def wsL_advise_r1 : List Cond := [Cond.classLink RL 32 "java/lang/IndexOutOfBoundsException", Cond.classLink RL 13 "java/lang/IllegalArgumentException", Cond.methodLink RL 59 yX2_advise, Cond.instanceMethod yX2_advise, Cond.selects RX2 yX2_advise yX2_advise, Cond.initialized RX2, Cond.code yX2_advise cX2_advise 7 (some .int), Cond.classLink RX2 43 "java/lang/IllegalArgumentException", Cond.initialized "java/lang/IllegalArgumentException", Cond.fieldLink RX2 25 "SledgeRace" "trial" "LSledgeRace$Team;", Cond.methodLink RX2 79 yX2_teamNumbered, Cond.instanceMethod yX2_teamNumbered, Cond.selects RX2 yX2_teamNumbered yX2_teamNumbered, Cond.code yX2_teamNumbered cX2_teamNumbered 3 (some (.object "SledgeRace$Team")), Cond.classLink RX2 122 "java/lang/IndexOutOfBoundsException", Cond.initialized "java/lang/IndexOutOfBoundsException", Cond.fieldLink RX2 18 "SledgeRace" "teams" "[LSledgeRace$Team;", Cond.methodLink RX2 39 yX2_isOutside, Cond.static yX2_isOutside, Cond.code yX2_isOutside cX2_isOutside 3 (some .boolean), Cond.methodLink RX2 167 yX2_lookAhead, Cond.instanceMethod yX2_lookAhead, Cond.selects RX2 yX2_lookAhead yX2_lookAhead, Cond.code yX2_lookAhead cX2_lookAhead 6 none]
def wsL_advise_r2 : List Cond := [Cond.fieldLink RX2 36 "SledgeRace" "tick" "I", Cond.fieldLink RX2 10 "SledgeRace" "track" "LSledgeRace$Track;", Cond.methodLink RX2 197 yX0_copyFrom, Cond.instanceMethod yX0_copyFrom, Cond.selects RX0 yX0_copyFrom yX0_copyFrom, Cond.initialized RX0, Cond.code yX0_copyFrom cX0_copyFrom 2 none, Cond.fieldLink RX0 7 "SledgeRace$Team" "number" "I", Cond.fieldLink RX0 13 "SledgeRace$Team" "length" "I", Cond.fieldLink RX0 16 "SledgeRace$Team" "weight" "I", Cond.fieldLink RX0 19 "SledgeRace$Team" "rollers" "I", Cond.fieldLink RX0 22 "SledgeRace$Team" "pullers" "I", Cond.fieldLink RX0 25 "SledgeRace$Team" "strength" "I", Cond.fieldLink RX0 28 "SledgeRace$Team" "runners" "I", Cond.fieldLink RX0 31 "SledgeRace$Team" "wholeRope" "I", Cond.fieldLink RX0 34 "SledgeRace$Team" "effort" "I", Cond.fieldLink RX0 37 "SledgeRace$Team" "gap" "I", Cond.fieldLink RX0 53 "SledgeRace$Team" "front" "I", Cond.fieldLink RX0 56 "SledgeRace$Team" "breath" "I", Cond.fieldLink RX0 59 "SledgeRace$Team" "rope" "I", Cond.fieldLink RX0 62 "SledgeRace$Team" "knotting" "I", Cond.fieldLink RX0 65 "SledgeRace$Team" "breaks" "I", Cond.fieldLink RX0 68 "SledgeRace$Team" "way" "I", Cond.fieldLink RX0 71 "SledgeRace$Team" "endTick" "I"]
def wsL_advise_r3 : List Cond := [Cond.fieldLink RX0 40 "SledgeRace$Team" "places" "[I", Cond.fieldLink RX0 44 "SledgeRace$Team" "loads" "[I", Cond.fieldLink RX0 47 "SledgeRace$Team" "ticksToGo" "[I", Cond.methodLink RX0 74 yX0_copyRow, Cond.static yX0_copyRow, Cond.code yX0_copyRow cX0_copyRow 3 none, Cond.methodLink RX2 194 yX0_passTick, Cond.instanceMethod yX0_passTick, Cond.selects RX0 yX0_passTick yX0_passTick, Cond.code yX0_passTick cX0_passTick 4 none, Cond.methodLink RX0 78 yX0_isAtEnd, Cond.instanceMethod yX0_isAtEnd, Cond.selects RX0 yX0_isAtEnd yX0_isAtEnd, Cond.code yX0_isAtEnd cX0_isAtEnd 1 (some .boolean), Cond.methodLink RX0 82 yX0_pull, Cond.instanceMethod yX0_pull, Cond.selects RX0 yX0_pull yX0_pull, Cond.code yX0_pull cX0_pull 1 (some .int), Cond.methodLink RX0 86 yX0_breakRope, Cond.instanceMethod yX0_breakRope, Cond.selects RX0 yX0_breakRope yX0_breakRope, Cond.code yX0_breakRope cX0_breakRope 1 none, Cond.methodLink RX0 110 Lib.Math.max.name, Cond.static Lib.Math.max.name]
def wsL_advise_r4 : List Cond := [Cond.initialized "java/lang/Math", Cond.code Lib.Math.max.name Lib.Math.max.code 2 (some .int), Cond.methodLink RX0 89 yX0_breathe, Cond.instanceMethod yX0_breathe, Cond.selects RX0 yX0_breathe yX0_breathe, Cond.code yX0_breathe cX0_breathe 3 none, Cond.methodLink RX0 123 Lib.Math.min.name, Cond.static Lib.Math.min.name, Cond.code Lib.Math.min.name Lib.Math.min.code 2 (some .int), Cond.methodLink RX0 93 yX0_drag, Cond.instanceMethod yX0_drag, Cond.selects RX0 yX0_drag yX0_drag, Cond.code yX0_drag cX0_drag 8 (some .int), Cond.methodLink RX0 115 yX1_groundAt, Cond.instanceMethod yX1_groundAt, Cond.selects RX1 yX1_groundAt yX1_groundAt, Cond.initialized RX1, Cond.code yX1_groundAt cX1_groundAt 8 (some .int), Cond.fieldLink RX1 16 "SledgeRace$Track" "softnesses" "[I", Cond.fieldLink RX1 13 "SledgeRace$Track" "slopes" "[I", Cond.methodLink RX1 26 Lib.Math.max.name, Cond.fieldLink RX1 19 "SledgeRace$Track" "stretches" "I", Cond.fieldLink RX1 9 "SledgeRace$Track" "starts" "[I", Cond.methodLink RX0 119 yX0_rollersLying]
def wsL_advise_r5 : List Cond := [Cond.instanceMethod yX0_rollersLying, Cond.selects RX0 yX0_rollersLying yX0_rollersLying, Cond.code yX0_rollersLying cX0_rollersLying 4 (some .int), Cond.methodLink RX0 126 yX0_sideOf, Cond.instanceMethod yX0_sideOf, Cond.selects RX0 yX0_sideOf yX0_sideOf, Cond.code yX0_sideOf cX0_sideOf 2 (some .int), Cond.methodLink RX0 97 yX0_wayWith, Cond.instanceMethod yX0_wayWith, Cond.selects RX0 yX0_wayWith yX0_wayWith, Cond.code yX0_wayWith cX0_wayWith 3 (some .int), Cond.methodLink RX0 101 yX0_moveOn, Cond.instanceMethod yX0_moveOn, Cond.selects RX0 yX0_moveOn yX0_moveOn, Cond.code yX0_moveOn cX0_moveOn 2 none, Cond.methodLink RX0 104 yX0_sendRunners, Cond.instanceMethod yX0_sendRunners, Cond.selects RX0 yX0_sendRunners yX0_sendRunners, Cond.code yX0_sendRunners cX0_sendRunners 4 none, Cond.methodLink RX0 129 yX0_lastBehind, Cond.instanceMethod yX0_lastBehind, Cond.selects RX0 yX0_lastBehind yX0_lastBehind, Cond.code yX0_lastBehind cX0_lastBehind 4 (some .int)]
def wsL_advise : List Cond := .codeWith yL_advise cL_advise 5 (some .int) [(0, 10, 13, 32), (0, 10, 17, 13)] :: ((wsL_advise_r1 ++ (wsL_advise_r2 ++ (wsL_advise_r3 ++ (wsL_advise_r4 ++ wsL_advise_r5)))) ++ wsX20 ++ wsX00 ++ wsX10 ++ (vx_atS RX2 47 "java/lang/IllegalArgumentException" ["java/lang/RuntimeException", "java/lang/Exception"]).filter goodWord ++ (vx_atS RX2 126 "java/lang/IndexOutOfBoundsException" ["java/lang/RuntimeException", "java/lang/Exception"]).filter goodWord)
def wsL_law0_r1 : List Cond := [Cond.classLink RL 8 RX2, Cond.instantiable RX2 6, Cond.initialized RX2, Cond.classLink RL 63 RX3, Cond.instantiable RX3 9, Cond.initialized RX3, Cond.arrayClass .long, Cond.methodLink RL 62 yX2_init, Cond.instanceMethod yX2_init, Cond.code yX2_init cX2_init 1 none, Cond.methodLink RX2 1 objectInit, Cond.instanceMethod objectInit, Cond.code objectInit ⟨#[0xb1]⟩ 1 none, Cond.classLink RX2 7 RX1, Cond.instantiable RX1 5, Cond.initialized RX1, Cond.fieldLink RX2 10 "SledgeRace" "track" "LSledgeRace$Track;", Cond.classLink RX2 16 RX0, Cond.fieldLink RX2 18 "SledgeRace" "teams" "[LSledgeRace$Team;", Cond.instantiable RX0 20, Cond.initialized RX0, Cond.fieldLink RX2 25 "SledgeRace" "trial" "LSledgeRace$Team;", Cond.fieldLink RX2 29 "SledgeRace" "rival" "LSledgeRace$Team;", Cond.fieldLink RX2 32 "SledgeRace" "teamCount" "I"]
def wsL_law0_r2 : List Cond := [Cond.fieldLink RX2 36 "SledgeRace" "tick" "I", Cond.methodLink RX2 9 yX1_init, Cond.instanceMethod yX1_init, Cond.code yX1_init cX1_init 1 none, Cond.methodLink RX1 1 objectInit, Cond.arrayClass .int, Cond.fieldLink RX1 9 "SledgeRace$Track" "starts" "[I", Cond.fieldLink RX1 13 "SledgeRace$Track" "slopes" "[I", Cond.fieldLink RX1 16 "SledgeRace$Track" "softnesses" "[I", Cond.fieldLink RX1 19 "SledgeRace$Track" "stretches" "I", Cond.fieldLink RX1 23 "SledgeRace$Track" "length" "I", Cond.methodLink RX2 22 yX0_init, Cond.instanceMethod yX0_init, Cond.code yX0_init cX0_init 5 none, Cond.methodLink RX0 1 objectInit, Cond.fieldLink RX0 7 "SledgeRace$Team" "number" "I", Cond.fieldLink RX0 13 "SledgeRace$Team" "length" "I", Cond.fieldLink RX0 16 "SledgeRace$Team" "weight" "I", Cond.fieldLink RX0 19 "SledgeRace$Team" "rollers" "I", Cond.fieldLink RX0 22 "SledgeRace$Team" "pullers" "I", Cond.fieldLink RX0 25 "SledgeRace$Team" "strength" "I", Cond.fieldLink RX0 28 "SledgeRace$Team" "runners" "I", Cond.fieldLink RX0 31 "SledgeRace$Team" "wholeRope" "I", Cond.fieldLink RX0 34 "SledgeRace$Team" "effort" "I"]
def wsL_law0_r3 : List Cond := [Cond.fieldLink RX0 37 "SledgeRace$Team" "gap" "I", Cond.fieldLink RX0 40 "SledgeRace$Team" "places" "[I", Cond.fieldLink RX0 44 "SledgeRace$Team" "loads" "[I", Cond.fieldLink RX0 47 "SledgeRace$Team" "ticksToGo" "[I", Cond.methodLink RX0 50 yX0_goToStart, Cond.instanceMethod yX0_goToStart, Cond.selects RX0 yX0_goToStart yX0_goToStart, Cond.code yX0_goToStart cX0_goToStart 2 none, Cond.fieldLink RX0 53 "SledgeRace$Team" "front" "I", Cond.fieldLink RX0 56 "SledgeRace$Team" "breath" "I", Cond.fieldLink RX0 59 "SledgeRace$Team" "rope" "I", Cond.fieldLink RX0 62 "SledgeRace$Team" "knotting" "I", Cond.fieldLink RX0 65 "SledgeRace$Team" "breaks" "I", Cond.fieldLink RX0 68 "SledgeRace$Team" "way" "I", Cond.fieldLink RX0 71 "SledgeRace$Team" "endTick" "I", Cond.methodLink RL 65 yX3_init, Cond.instanceMethod yX3_init, Cond.code yX3_init cX3_init 1 none, Cond.methodLink RX3 3 objectInit, Cond.fieldLink RX3 9 "SledgeRaceModel" "length" "I", Cond.fieldLink RX3 13 "SledgeRaceModel" "stretches" "I", Cond.fieldLink RX3 16 "SledgeRaceModel" "ground" "[I", Cond.fieldLink RX3 20 "SledgeRaceModel" "table" "[I", Cond.fieldLink RX3 23 "SledgeRaceModel" "spare" "[I"]
def wsL_law0_r4 : List Cond := [Cond.methodLink RL 66 yL_setLength, Cond.static yL_setLength, Cond.initialized RL, Cond.codeWith yL_setLength cL_setLength 4 (some .int) [(0, 9, 12, 13), (0, 9, 15, 15)], Cond.classLink RL 13 "java/lang/IllegalArgumentException", Cond.classLink RL 15 "java/lang/IllegalStateException", Cond.methodLink RL 7 yX2_setLength, Cond.instanceMethod yX2_setLength, Cond.selects RX2 yX2_setLength yX2_setLength, Cond.code yX2_setLength cX2_setLength 3 (some .int), Cond.classLink RX2 43 "java/lang/IllegalArgumentException", Cond.initialized "java/lang/IllegalArgumentException", Cond.methodLink RX2 39 yX2_isOutside, Cond.static yX2_isOutside, Cond.code yX2_isOutside cX2_isOutside 3 (some .boolean), Cond.methodLink RX2 50 yX2_requireStart, Cond.instanceMethod yX2_requireStart, Cond.selects RX2 yX2_requireStart yX2_requireStart, Cond.code yX2_requireStart cX2_requireStart 1 none, Cond.classLink RX2 61 "java/lang/IllegalStateException", Cond.initialized "java/lang/IllegalStateException", Cond.methodLink RL 71 yX3_setLength, Cond.instanceMethod yX3_setLength, Cond.selects RX3 yX3_setLength yX3_setLength]
def wsL_law0_r5 : List Cond := [Cond.code yX3_setLength cX3_setLength 3 (some .int), Cond.fieldLink RX3 26 "SledgeRaceModel" "thrown" "I", Cond.fieldLink RX3 40 "SledgeRaceModel" "tick" "I", Cond.methodLink RX3 32 yX3_isIn, Cond.static yX3_isIn, Cond.code yX3_isIn cX3_isIn 3 (some .boolean), Cond.methodLink RX3 36 yX3_fail, Cond.instanceMethod yX3_fail, Cond.selects RX3 yX3_fail yX3_fail, Cond.code yX3_fail cX3_fail 2 (some .int), Cond.methodLink RL 72 yX3_thrown, Cond.instanceMethod yX3_thrown, Cond.selects RX3 yX3_thrown yX3_thrown, Cond.code yX3_thrown cX3_thrown 1 (some .int), Cond.methodLink RL 76 yL_lay, Cond.static yL_lay, Cond.codeWith yL_lay cL_lay 6 (some .int) [(0, 12, 15, 13), (0, 12, 19, 15)], Cond.methodLink RL 17 yX2_lay, Cond.instanceMethod yX2_lay, Cond.selects RX2 yX2_lay yX2_lay, Cond.code yX2_lay cX2_lay 4 (some .int), Cond.methodLink RX2 58 yX1_putStretch, Cond.instanceMethod yX1_putStretch, Cond.selects RX1 yX1_putStretch yX1_putStretch]
def wsL_law0_r6 : List Cond := [Cond.code yX1_putStretch cX1_putStretch 5 (some .boolean), Cond.methodLink RL 79 yX3_lay, Cond.instanceMethod yX3_lay, Cond.selects RX3 yX3_lay yX3_lay, Cond.code yX3_lay cX3_lay 7 (some .int), Cond.methodLink RX3 46 arraycopyName, Cond.native arraycopyName, Cond.static arraycopyName, Cond.initialized "java/lang/System", Cond.methodLink RX3 43 yX3_stretchAt, Cond.instanceMethod yX3_stretchAt, Cond.selects RX3 yX3_stretchAt yX3_stretchAt, Cond.code yX3_stretchAt cX3_stretchAt 3 (some .int), Cond.methodLink RL 80 yL_ground, Cond.static yL_ground, Cond.codeWith yL_ground cL_ground 5 (some .int) [(0, 10, 13, 13)], Cond.methodLink RL 21 yX2_ground, Cond.instanceMethod yX2_ground, Cond.selects RX2 yX2_ground yX2_ground, Cond.code yX2_ground cX2_ground 3 (some .int), Cond.methodLink RX2 71 yX1_groundAt, Cond.instanceMethod yX1_groundAt, Cond.selects RX1 yX1_groundAt yX1_groundAt, Cond.code yX1_groundAt cX1_groundAt 8 (some .int)]
def wsL_law0_r7 : List Cond := [Cond.methodLink RX1 26 Lib.Math.max.name, Cond.static Lib.Math.max.name, Cond.initialized "java/lang/Math", Cond.code Lib.Math.max.name Lib.Math.max.code 2 (some .int), Cond.methodLink RL 83 yX3_ground, Cond.instanceMethod yX3_ground, Cond.selects RX3 yX3_ground yX3_ground, Cond.code yX3_ground cX3_ground 3 (some .int), Cond.methodLink RL 84 yL_addTeam, Cond.static yL_addTeam, Cond.codeWith yL_addTeam cL_addTeam 6 (some .int) [(0, 12, 15, 13), (0, 12, 19, 15)], Cond.methodLink RL 25 yX2_addTeam, Cond.instanceMethod yX2_addTeam, Cond.selects RX2 yX2_addTeam yX2_addTeam, Cond.code yX2_addTeam cX2_addTeam 5 (some .int), Cond.methodLink RL 86 yX3_addTeam, Cond.instanceMethod yX3_addTeam, Cond.selects RX3 yX3_addTeam yX3_addTeam, Cond.code yX3_addTeam cX3_addTeam 5 (some .int), Cond.fieldLink RX3 29 "SledgeRaceModel" "teams" "I", Cond.methodLink RX3 60 yX3_begin, Cond.instanceMethod yX3_begin, Cond.selects RX3 yX3_begin yX3_begin, Cond.code yX3_begin cX3_begin 3 none]
def wsL_law0_r8 : List Cond := [Cond.methodLink RX3 52 yX3_set, Cond.instanceMethod yX3_set, Cond.selects RX3 yX3_set yX3_set, Cond.code yX3_set cX3_set 4 none, Cond.methodLink RX3 56 yX3_get, Cond.instanceMethod yX3_get, Cond.selects RX3 yX3_get yX3_get, Cond.code yX3_get cX3_get 3 (some .int), Cond.methodLink RL 87 yL_setCrew, Cond.static yL_setCrew, Cond.codeWith yL_setCrew cL_setCrew 8 (some .int) [(0, 16, 19, 32), (0, 16, 23, 13), (0, 16, 27, 15)], Cond.classLink RL 32 "java/lang/IndexOutOfBoundsException", Cond.methodLink RL 28 yX2_setCrew, Cond.instanceMethod yX2_setCrew, Cond.selects RX2 yX2_setCrew yX2_setCrew, Cond.code yX2_setCrew cX2_setCrew 8 (some .int), Cond.methodLink RX2 79 yX2_teamNumbered, Cond.instanceMethod yX2_teamNumbered, Cond.selects RX2 yX2_teamNumbered yX2_teamNumbered, Cond.code yX2_teamNumbered cX2_teamNumbered 3 (some (.object "SledgeRace$Team")), Cond.classLink RX2 122 "java/lang/IndexOutOfBoundsException", Cond.initialized "java/lang/IndexOutOfBoundsException", Cond.methodLink RL 90 yX3_setCrew, Cond.instanceMethod yX3_setCrew]
def wsL_law0_r9 : List Cond := [Cond.selects RX3 yX3_setCrew yX3_setCrew, Cond.code yX3_setCrew cX3_setCrew 8 (some .int), Cond.methodLink RX3 64 yX3_isTeam, Cond.instanceMethod yX3_isTeam, Cond.selects RX3 yX3_isTeam yX3_isTeam, Cond.code yX3_isTeam cX3_isTeam 2 (some .boolean), Cond.methodLink RL 91 yL_order, Cond.static yL_order, Cond.codeWith yL_order cL_order 6 (some .int) [(0, 12, 15, 32), (0, 12, 19, 13)], Cond.methodLink RL 34 yX2_order, Cond.instanceMethod yX2_order, Cond.selects RX2 yX2_order yX2_order, Cond.code yX2_order cX2_order 6 (some .int), Cond.methodLink RL 93 yX3_order, Cond.instanceMethod yX3_order, Cond.selects RX3 yX3_order yX3_order, Cond.code yX3_order cX3_order 5 (some .int), Cond.methodLink RL 94 yL_run, Cond.static yL_run, Cond.codeWith yL_run cL_run 4 (some .int) [(0, 9, 12, 13), (0, 9, 15, 15)], Cond.methodLink RL 37 yX2_run, Cond.instanceMethod yX2_run, Cond.selects RX2 yX2_run yX2_run, Cond.code yX2_run cX2_run 3 (some .int)]
def wsL_law0_r10 : List Cond := [Cond.methodLink RX2 112 yX2_passTick, Cond.instanceMethod yX2_passTick, Cond.selects RX2 yX2_passTick yX2_passTick, Cond.code yX2_passTick cX2_passTick 5 none, Cond.methodLink RX2 194 yX0_passTick, Cond.instanceMethod yX0_passTick, Cond.selects RX0 yX0_passTick yX0_passTick, Cond.code yX0_passTick cX0_passTick 4 none, Cond.methodLink RX0 78 yX0_isAtEnd, Cond.instanceMethod yX0_isAtEnd, Cond.selects RX0 yX0_isAtEnd yX0_isAtEnd, Cond.code yX0_isAtEnd cX0_isAtEnd 1 (some .boolean), Cond.methodLink RX0 82 yX0_pull, Cond.instanceMethod yX0_pull, Cond.selects RX0 yX0_pull yX0_pull, Cond.code yX0_pull cX0_pull 1 (some .int), Cond.methodLink RX0 86 yX0_breakRope, Cond.instanceMethod yX0_breakRope, Cond.selects RX0 yX0_breakRope yX0_breakRope, Cond.code yX0_breakRope cX0_breakRope 1 none, Cond.methodLink RX0 110 Lib.Math.max.name, Cond.methodLink RX0 89 yX0_breathe, Cond.instanceMethod yX0_breathe, Cond.selects RX0 yX0_breathe yX0_breathe]
def wsL_law0_r11 : List Cond := [Cond.code yX0_breathe cX0_breathe 3 none, Cond.methodLink RX0 123 Lib.Math.min.name, Cond.static Lib.Math.min.name, Cond.code Lib.Math.min.name Lib.Math.min.code 2 (some .int), Cond.methodLink RX0 93 yX0_drag, Cond.instanceMethod yX0_drag, Cond.selects RX0 yX0_drag yX0_drag, Cond.code yX0_drag cX0_drag 8 (some .int), Cond.methodLink RX0 115 yX1_groundAt, Cond.methodLink RX0 119 yX0_rollersLying, Cond.instanceMethod yX0_rollersLying, Cond.selects RX0 yX0_rollersLying yX0_rollersLying, Cond.code yX0_rollersLying cX0_rollersLying 4 (some .int), Cond.methodLink RX0 126 yX0_sideOf, Cond.instanceMethod yX0_sideOf, Cond.selects RX0 yX0_sideOf yX0_sideOf, Cond.code yX0_sideOf cX0_sideOf 2 (some .int), Cond.methodLink RX0 97 yX0_wayWith, Cond.instanceMethod yX0_wayWith, Cond.selects RX0 yX0_wayWith yX0_wayWith, Cond.code yX0_wayWith cX0_wayWith 3 (some .int), Cond.methodLink RX0 101 yX0_moveOn, Cond.instanceMethod yX0_moveOn, Cond.selects RX0 yX0_moveOn yX0_moveOn]
def wsL_law0_r12 : List Cond := [Cond.code yX0_moveOn cX0_moveOn 2 none, Cond.methodLink RX0 104 yX0_sendRunners, Cond.instanceMethod yX0_sendRunners, Cond.selects RX0 yX0_sendRunners yX0_sendRunners, Cond.code yX0_sendRunners cX0_sendRunners 4 none, Cond.methodLink RX0 129 yX0_lastBehind, Cond.instanceMethod yX0_lastBehind, Cond.selects RX0 yX0_lastBehind yX0_lastBehind, Cond.code yX0_lastBehind cX0_lastBehind 4 (some .int), Cond.methodLink RX2 115 yX2_teamsAtEnd, Cond.instanceMethod yX2_teamsAtEnd, Cond.selects RX2 yX2_teamsAtEnd yX2_teamsAtEnd, Cond.code yX2_teamsAtEnd cX2_teamsAtEnd 6 (some .int), Cond.methodLink RX2 215 yX0_isAtEnd, Cond.methodLink RL 96 yX3_run, Cond.instanceMethod yX3_run, Cond.selects RX3 yX3_run yX3_run, Cond.code yX3_run cX3_run 3 (some .int), Cond.methodLink RX3 111 yX3_tickOn, Cond.instanceMethod yX3_tickOn, Cond.selects RX3 yX3_tickOn yX3_tickOn, Cond.code yX3_tickOn cX3_tickOn 2 none, Cond.methodLink RX3 108 yX3_tickOf, Cond.instanceMethod yX3_tickOf]
def wsL_law0_r13 : List Cond := [Cond.selects RX3 yX3_tickOf yX3_tickOf, Cond.code yX3_tickOf cX3_tickOf 3 none, Cond.methodLink RX3 78 Lib.Math.max.name, Cond.fieldLink RX3 95 "SledgeRaceModel" "broke" "I", Cond.methodLink RX3 86 yX3_pull, Cond.instanceMethod yX3_pull, Cond.selects RX3 yX3_pull yX3_pull, Cond.code yX3_pull cX3_pull 2 (some .int), Cond.methodLink RX3 98 yX3_breathe, Cond.instanceMethod yX3_breathe, Cond.selects RX3 yX3_breathe yX3_breathe, Cond.code yX3_breathe cX3_breathe 3 none, Cond.methodLink RX3 83 Lib.Math.min.name, Cond.methodLink RX3 102 yX3_roll, Cond.instanceMethod yX3_roll, Cond.selects RX3 yX3_roll yX3_roll, Cond.code yX3_roll cX3_roll 4 none, Cond.methodLink RX3 92 yX3_way, Cond.instanceMethod yX3_way, Cond.selects RX3 yX3_way yX3_way, Cond.code yX3_way cX3_way 2 (some .int), Cond.methodLink RX3 89 yX3_drag, Cond.instanceMethod yX3_drag, Cond.selects RX3 yX3_drag yX3_drag]
def wsL_law0_r14 : List Cond := [Cond.code yX3_drag cX3_drag 7 (some .int), Cond.methodLink RX3 75 yX3_many, Cond.instanceMethod yX3_many, Cond.selects RX3 yX3_many yX3_many, Cond.code yX3_many cX3_many 5 (some .int), Cond.methodLink RX3 72 yX3_where, Cond.instanceMethod yX3_where, Cond.selects RX3 yX3_where yX3_where, Cond.code yX3_where cX3_where 4 (some .int), Cond.methodLink RX3 68 yX3_isCarried, Cond.instanceMethod yX3_isCarried, Cond.selects RX3 yX3_isCarried yX3_isCarried, Cond.code yX3_isCarried cX3_isCarried 4 (some .boolean), Cond.methodLink RX3 105 yX3_runner, Cond.instanceMethod yX3_runner, Cond.selects RX3 yX3_runner yX3_runner, Cond.code yX3_runner cX3_runner 5 none, Cond.methodLink RX3 114 yX3_ended, Cond.instanceMethod yX3_ended, Cond.selects RX3 yX3_ended yX3_ended, Cond.code yX3_ended cX3_ended 3 (some .int), Cond.methodLink RL 97 yX2_restart, Cond.instanceMethod yX2_restart, Cond.selects RX2 yX2_restart yX2_restart]
def wsL_law0_r15 : List Cond := [Cond.code yX2_restart cX2_restart 5 (some .int), Cond.methodLink RX2 119 yX0_goToStart, Cond.methodLink RL 100 yX3_restart, Cond.instanceMethod yX3_restart, Cond.selects RX3 yX3_restart yX3_restart, Cond.code yX3_restart cX3_restart 2 (some .int), Cond.methodLink RL 101 yL_count, Cond.static yL_count, Cond.codeWith yL_count cL_count 4 (some .int) [(0, 9, 12, 32)], Cond.methodLink RL 40 yX2_count, Cond.instanceMethod yX2_count, Cond.selects RX2 yX2_count yX2_count, Cond.code yX2_count cX2_count 2 (some .int), Cond.methodLink RX2 127 yX2_countOf, Cond.instanceMethod yX2_countOf, Cond.selects RX2 yX2_countOf yX2_countOf, Cond.code yX2_countOf cX2_countOf 2 (some .int), Cond.methodLink RX2 212 yX2_ropesBroken, Cond.instanceMethod yX2_ropesBroken, Cond.selects RX2 yX2_ropesBroken yX2_ropesBroken, Cond.code yX2_ropesBroken cX2_ropesBroken 6 (some .int), Cond.methodLink RL 103 yX3_count, Cond.instanceMethod yX3_count, Cond.selects RX3 yX3_count yX3_count]
def wsL_law0_r16 : List Cond := [Cond.code yX3_count cX3_count 2 (some .int), Cond.methodLink RX3 118 yX3_counted, Cond.instanceMethod yX3_counted, Cond.selects RX3 yX3_counted yX3_counted, Cond.code yX3_counted cX3_counted 2 (some .int), Cond.methodLink RL 104 yL_team, Cond.static yL_team, Cond.codeWith yL_team cL_team 5 (some .int) [(0, 10, 13, 32)], Cond.methodLink RL 43 yX2_team, Cond.instanceMethod yX2_team, Cond.selects RX2 yX2_team yX2_team, Cond.code yX2_team cX2_team 4 (some .int), Cond.methodLink RX2 133 yX0_fact, Cond.instanceMethod yX0_fact, Cond.selects RX0 yX0_fact yX0_fact, Cond.code yX0_fact cX0_fact 2 (some .int), Cond.methodLink RL 107 yX3_team, Cond.instanceMethod yX3_team, Cond.selects RX3 yX3_team yX3_team, Cond.code yX3_team cX3_team 3 (some .int), Cond.methodLink RX3 121 yX3_teamTold, Cond.instanceMethod yX3_teamTold, Cond.selects RX3 yX3_teamTold yX3_teamTold, Cond.code yX3_teamTold cX3_teamTold 3 (some .int)]
def wsL_law0_r17 : List Cond := [Cond.methodLink RL 108 yL_roller, Cond.static yL_roller, Cond.codeWith yL_roller cL_roller 5 (some .int) [(0, 10, 13, 32), (0, 10, 17, 15)], Cond.methodLink RL 47 yX2_roller, Cond.instanceMethod yX2_roller, Cond.selects RX2 yX2_roller yX2_roller, Cond.code yX2_roller cX2_roller 5 (some .int), Cond.methodLink RL 110 yX3_roller, Cond.instanceMethod yX3_roller, Cond.selects RX3 yX3_roller yX3_roller, Cond.code yX3_roller cX3_roller 3 (some .int), Cond.methodLink RL 111 yL_next, Cond.static yL_next, Cond.codeWith yL_next cL_next 5 (some .int) [(0, 10, 13, 32)], Cond.methodLink RL 50 yX2_next, Cond.instanceMethod yX2_next, Cond.selects RX2 yX2_next yX2_next, Cond.code yX2_next cX2_next 4 (some .int), Cond.methodLink RX2 149 yX0_pull, Cond.methodLink RX2 152 yX0_drag, Cond.methodLink RX2 156 yX0_wayWith, Cond.methodLink RL 113 yX3_next, Cond.instanceMethod yX3_next, Cond.selects RX3 yX3_next yX3_next]
def wsL_law0_r18 : List Cond := [Cond.code yX3_next cX3_next 3 (some .int), Cond.methodLink RL 114 yL_ranked, Cond.static yL_ranked, Cond.codeWith yL_ranked cL_ranked 4 (some .int) [(0, 9, 12, 32)], Cond.methodLink RL 53 yX2_ranked, Cond.instanceMethod yX2_ranked, Cond.selects RX2 yX2_ranked yX2_ranked, Cond.code yX2_ranked cX2_ranked 2 (some .int), Cond.methodLink RX2 162 yX2_teamAtRank, Cond.instanceMethod yX2_teamAtRank, Cond.selects RX2 yX2_teamAtRank yX2_teamAtRank, Cond.code yX2_teamAtRank cX2_teamAtRank 6 (some .int), Cond.methodLink RX2 205 yX2_rankOf, Cond.instanceMethod yX2_rankOf, Cond.selects RX2 yX2_rankOf yX2_rankOf, Cond.code yX2_rankOf cX2_rankOf 7 (some .int), Cond.methodLink RX2 201 yX0_isAheadOf, Cond.instanceMethod yX0_isAheadOf, Cond.selects RX0 yX0_isAheadOf yX0_isAheadOf, Cond.code yX0_isAheadOf cX0_isAheadOf 2 (some .boolean), Cond.methodLink RL 116 yX3_ranked, Cond.instanceMethod yX3_ranked, Cond.selects RX3 yX3_ranked yX3_ranked, Cond.code yX3_ranked cX3_ranked 2 (some .int)]
def wsL_law0_r19 : List Cond := [Cond.methodLink RX3 130 yX3_teamAt, Cond.instanceMethod yX3_teamAt, Cond.selects RX3 yX3_teamAt yX3_teamAt, Cond.code yX3_teamAt cX3_teamAt 3 (some .int), Cond.methodLink RX3 127 yX3_rankOf, Cond.instanceMethod yX3_rankOf, Cond.selects RX3 yX3_rankOf yX3_rankOf, Cond.code yX3_rankOf cX3_rankOf 4 (some .int), Cond.methodLink RX3 124 yX3_isAhead, Cond.instanceMethod yX3_isAhead, Cond.selects RX3 yX3_isAhead yX3_isAhead, Cond.code yX3_isAhead cX3_isAhead 5 (some .boolean), Cond.methodLink RL 117 yL_foresee, Cond.static yL_foresee, Cond.codeWith yL_foresee cL_foresee 6 (some .int) [(0, 12, 15, 32), (0, 12, 19, 13)], Cond.methodLink RL 56 yX2_foresee, Cond.instanceMethod yX2_foresee, Cond.selects RX2 yX2_foresee yX2_foresee, Cond.code yX2_foresee cX2_foresee 5 (some .int), Cond.methodLink RX2 167 yX2_lookAhead, Cond.instanceMethod yX2_lookAhead, Cond.selects RX2 yX2_lookAhead yX2_lookAhead, Cond.code yX2_lookAhead cX2_lookAhead 6 none, Cond.methodLink RX2 197 yX0_copyFrom]
def wsL_law0_r20 : List Cond := [Cond.instanceMethod yX0_copyFrom, Cond.selects RX0 yX0_copyFrom yX0_copyFrom, Cond.code yX0_copyFrom cX0_copyFrom 2 none, Cond.methodLink RX0 74 yX0_copyRow, Cond.static yX0_copyRow, Cond.code yX0_copyRow cX0_copyRow 3 none, Cond.methodLink RX2 174 yX2_rankOfTrialAmongRivals, Cond.instanceMethod yX2_rankOfTrialAmongRivals, Cond.selects RX2 yX2_rankOfTrialAmongRivals yX2_rankOfTrialAmongRivals, Cond.code yX2_rankOfTrialAmongRivals cX2_rankOfTrialAmongRivals 7 (some .int), Cond.methodLink RL 119 yX3_foresee, Cond.instanceMethod yX3_foresee, Cond.selects RX3 yX3_foresee yX3_foresee, Cond.code yX3_foresee cX3_foresee 7 (some .int), Cond.methodLink RL 120 yL_advise, Cond.static yL_advise, Cond.codeWith yL_advise cL_advise 5 (some .int) [(0, 10, 13, 32), (0, 10, 17, 13)], Cond.methodLink RL 59 yX2_advise, Cond.instanceMethod yX2_advise, Cond.selects RX2 yX2_advise yX2_advise, Cond.code yX2_advise cX2_advise 7 (some .int), Cond.methodLink RL 122 yX3_advise, Cond.instanceMethod yX3_advise, Cond.selects RX3 yX3_advise yX3_advise]
def wsL_law0_r21 : List Cond := [Cond.code yX3_advise cX3_advise 8 (some .int), Cond.methodLink RX3 133 yX3_foresee, Cond.methodLink RL 123 yX2_mean, Cond.instanceMethod yX2_mean, Cond.selects RX2 yX2_mean yX2_mean, Cond.code yX2_mean cX2_mean 6 (some .double), Cond.methodLink RL 127 yX3_mean, Cond.instanceMethod yX3_mean, Cond.selects RX3 yX3_mean yX3_mean, Cond.code yX3_mean cX3_mean 3 (some .double), Cond.methodLink RL 128 yX2_digest, Cond.instanceMethod yX2_digest, Cond.selects RX2 yX2_digest yX2_digest, Cond.code yX2_digest cX2_digest 7 (some .long), Cond.constantLong RX2 182 (461), Cond.constantLong RX2 184 (31), Cond.methodLink RX2 186 yX0_addTo, Cond.instanceMethod yX0_addTo, Cond.selects RX0 yX0_addTo yX0_addTo, Cond.code yX0_addTo cX0_addTo 6 (some .long), Cond.constantLong RX0 132 (31), Cond.methodLink RX0 134 yX0_fact, Cond.methodLink RL 132 yX3_digest, Cond.instanceMethod yX3_digest]
def wsL_law0_r22 : List Cond := [Cond.selects RX3 yX3_digest yX3_digest, Cond.code yX3_digest cX3_digest 5 (some .long), Cond.constantLong RX3 137 (461), Cond.constantLong RX3 139 (31)]
def wsL_law0 : List Cond := (wsL_law0_r1 ++ (wsL_law0_r2 ++ (wsL_law0_r3 ++ (wsL_law0_r4 ++ (wsL_law0_r5 ++ (wsL_law0_r6 ++ (wsL_law0_r7 ++ (wsL_law0_r8 ++ (wsL_law0_r9 ++ (wsL_law0_r10 ++ (wsL_law0_r11 ++ (wsL_law0_r12 ++ (wsL_law0_r13 ++ (wsL_law0_r14 ++ (wsL_law0_r15 ++ (wsL_law0_r16 ++ (wsL_law0_r17 ++ (wsL_law0_r18 ++ (wsL_law0_r19 ++ (wsL_law0_r20 ++ (wsL_law0_r21 ++ wsL_law0_r22))))))))))))))))))))) ++ wsX20 ++ wsX30 ++ wsX10 ++ wsX00 ++ ([] : List Cond)
def wsL_law : List Cond := wsL_law0 ++ (vx_atS RX2 47 "java/lang/IllegalArgumentException" ["java/lang/RuntimeException", "java/lang/Exception"]).filter goodWord ++ (vx_atS RX2 65 "java/lang/IllegalStateException" ["java/lang/RuntimeException", "java/lang/Exception"]).filter goodWord ++ (vx_atS RX2 126 "java/lang/IndexOutOfBoundsException" ["java/lang/RuntimeException", "java/lang/Exception"]).filter goodWord
abbrev vwCl : List vw_C := [(RX0, TX0, 20), (RX1, TX1, 5), (RX2, TX2, 6), (RX3, TX3, 9)]
end
section
theorem dX0_init_0 : decode cX0_init 0 = .ok (.aload_n 0, 1) := by decide +kernel
theorem dX0_init_1 : decode cX0_init 1 = .ok (.invokespecial 1, 3) := by decide +kernel
theorem dX0_init_4 : decode cX0_init 4 = .ok (.aload_n 0, 1) := by decide +kernel
theorem dX0_init_5 : decode cX0_init 5 = .ok (.iload_n 1, 1) := by decide +kernel
theorem dX0_init_6 : decode cX0_init 6 = .ok (.putfield 7, 3) := by decide +kernel
theorem dX0_init_9 : decode cX0_init 9 = .ok (.aload_n 0, 1) := by decide +kernel
theorem dX0_init_10 : decode cX0_init 10 = .ok (.iload_n 2, 1) := by decide +kernel
theorem dX0_init_11 : decode cX0_init 11 = .ok (.putfield 13, 3) := by decide +kernel
theorem dX0_init_14 : decode cX0_init 14 = .ok (.aload_n 0, 1) := by decide +kernel
theorem dX0_init_15 : decode cX0_init 15 = .ok (.iload_n 3, 1) := by decide +kernel
theorem dX0_init_16 : decode cX0_init 16 = .ok (.putfield 16, 3) := by decide +kernel
theorem dX0_init_19 : decode cX0_init 19 = .ok (.aload_n 0, 1) := by decide +kernel
theorem dX0_init_20 : decode cX0_init 20 = .ok (.iload 4, 2) := by decide +kernel
theorem dX0_init_22 : decode cX0_init 22 = .ok (.putfield 19, 3) := by decide +kernel
theorem dX0_init_25 : decode cX0_init 25 = .ok (.aload_n 0, 1) := by decide +kernel
theorem dX0_init_26 : decode cX0_init 26 = .ok (.iconst 4, 1) := by decide +kernel
theorem dX0_init_27 : decode cX0_init 27 = .ok (.putfield 22, 3) := by decide +kernel
theorem dX0_init_30 : decode cX0_init 30 = .ok (.aload_n 0, 1) := by decide +kernel
theorem dX0_init_31 : decode cX0_init 31 = .ok (.bipush 10, 2) := by decide +kernel
theorem dX0_init_33 : decode cX0_init 33 = .ok (.putfield 25, 3) := by decide +kernel
theorem dX0_init_36 : decode cX0_init 36 = .ok (.aload_n 0, 1) := by decide +kernel
theorem dX0_init_37 : decode cX0_init 37 = .ok (.iconst 1, 1) := by decide +kernel
theorem dX0_init_38 : decode cX0_init 38 = .ok (.putfield 28, 3) := by decide +kernel
theorem dX0_init_41 : decode cX0_init 41 = .ok (.aload_n 0, 1) := by decide +kernel
theorem dX0_init_42 : decode cX0_init 42 = .ok (.sipush 200, 3) := by decide +kernel
theorem dX0_init_45 : decode cX0_init 45 = .ok (.putfield 31, 3) := by decide +kernel
theorem dX0_init_48 : decode cX0_init 48 = .ok (.aload_n 0, 1) := by decide +kernel
theorem dX0_init_49 : decode cX0_init 49 = .ok (.iconst 5, 1) := by decide +kernel
theorem dX0_init_50 : decode cX0_init 50 = .ok (.putfield 34, 3) := by decide +kernel
theorem dX0_init_53 : decode cX0_init 53 = .ok (.aload_n 0, 1) := by decide +kernel
theorem dX0_init_54 : decode cX0_init 54 = .ok (.bipush 10, 2) := by decide +kernel
theorem dX0_init_56 : decode cX0_init 56 = .ok (.putfield 37, 3) := by decide +kernel
theorem dX0_init_59 : decode cX0_init 59 = .ok (.aload_n 0, 1) := by decide +kernel
theorem dX0_init_60 : decode cX0_init 60 = .ok (.bipush 8, 2) := by decide +kernel
theorem dX0_init_62 : decode cX0_init 62 = .ok (.newarray .int, 2) := by decide +kernel
theorem dX0_init_64 : decode cX0_init 64 = .ok (.putfield 40, 3) := by decide +kernel
theorem dX0_init_67 : decode cX0_init 67 = .ok (.aload_n 0, 1) := by decide +kernel
theorem dX0_init_68 : decode cX0_init 68 = .ok (.iconst 3, 1) := by decide +kernel
theorem dX0_init_69 : decode cX0_init 69 = .ok (.newarray .int, 2) := by decide +kernel
theorem dX0_init_71 : decode cX0_init 71 = .ok (.putfield 44, 3) := by decide +kernel
theorem dX0_init_74 : decode cX0_init 74 = .ok (.aload_n 0, 1) := by decide +kernel
theorem dX0_init_75 : decode cX0_init 75 = .ok (.iconst 3, 1) := by decide +kernel
theorem dX0_init_76 : decode cX0_init 76 = .ok (.newarray .int, 2) := by decide +kernel
theorem dX0_init_78 : decode cX0_init 78 = .ok (.putfield 47, 3) := by decide +kernel
theorem dX0_init_81 : decode cX0_init 81 = .ok (.aload_n 0, 1) := by decide +kernel
theorem dX0_init_82 : decode cX0_init 82 = .ok (.invokevirtual 50, 3) := by decide +kernel
theorem dX0_init_85 : decode cX0_init 85 = .ok (.return_, 1) := by decide +kernel
theorem dX0_goToStart_0 : decode cX0_goToStart 0 = .ok (.aload_n 0, 1) := by decide +kernel
theorem dX0_goToStart_1 : decode cX0_goToStart 1 = .ok (.iconst 0, 1) := by decide +kernel
theorem dX0_goToStart_2 : decode cX0_goToStart 2 = .ok (.putfield 53, 3) := by decide +kernel
theorem dX0_goToStart_5 : decode cX0_goToStart 5 = .ok (.aload_n 0, 1) := by decide +kernel
theorem dX0_goToStart_6 : decode cX0_goToStart 6 = .ok (.sipush 1000, 3) := by decide +kernel
theorem dX0_goToStart_9 : decode cX0_goToStart 9 = .ok (.putfield 56, 3) := by decide +kernel
theorem dX0_goToStart_12 : decode cX0_goToStart 12 = .ok (.aload_n 0, 1) := by decide +kernel
theorem dX0_goToStart_13 : decode cX0_goToStart 13 = .ok (.aload_n 0, 1) := by decide +kernel
theorem dX0_goToStart_14 : decode cX0_goToStart 14 = .ok (.getfield 31, 3) := by decide +kernel
theorem dX0_goToStart_17 : decode cX0_goToStart 17 = .ok (.putfield 59, 3) := by decide +kernel
theorem dX0_goToStart_20 : decode cX0_goToStart 20 = .ok (.aload_n 0, 1) := by decide +kernel
theorem dX0_goToStart_21 : decode cX0_goToStart 21 = .ok (.iconst 0, 1) := by decide +kernel
theorem dX0_goToStart_22 : decode cX0_goToStart 22 = .ok (.putfield 62, 3) := by decide +kernel
theorem dX0_goToStart_25 : decode cX0_goToStart 25 = .ok (.aload_n 0, 1) := by decide +kernel
theorem dX0_goToStart_26 : decode cX0_goToStart 26 = .ok (.iconst 0, 1) := by decide +kernel
theorem dX0_goToStart_27 : decode cX0_goToStart 27 = .ok (.putfield 65, 3) := by decide +kernel
theorem dX0_goToStart_30 : decode cX0_goToStart 30 = .ok (.aload_n 0, 1) := by decide +kernel
theorem dX0_goToStart_31 : decode cX0_goToStart 31 = .ok (.iconst 0, 1) := by decide +kernel
theorem dX0_goToStart_32 : decode cX0_goToStart 32 = .ok (.putfield 68, 3) := by decide +kernel
theorem dX0_goToStart_35 : decode cX0_goToStart 35 = .ok (.aload_n 0, 1) := by decide +kernel
theorem dX0_goToStart_36 : decode cX0_goToStart 36 = .ok (.iconst (-1), 1) := by decide +kernel
theorem dX0_goToStart_37 : decode cX0_goToStart 37 = .ok (.putfield 71, 3) := by decide +kernel
theorem dX0_goToStart_40 : decode cX0_goToStart 40 = .ok (.iconst 0, 1) := by decide +kernel
theorem dX0_goToStart_41 : decode cX0_goToStart 41 = .ok (.istore_n 1, 1) := by decide +kernel
theorem dX0_goToStart_42 : decode cX0_goToStart 42 = .ok (.iload_n 1, 1) := by decide +kernel
theorem dX0_goToStart_43 : decode cX0_goToStart 43 = .ok (.aload_n 0, 1) := by decide +kernel
theorem dX0_goToStart_44 : decode cX0_goToStart 44 = .ok (.getfield 19, 3) := by decide +kernel
theorem dX0_goToStart_47 : decode cX0_goToStart 47 = .ok (.if_icmp .ge 44, 3) := by decide +kernel
theorem dX0_goToStart_50 : decode cX0_goToStart 50 = .ok (.iload_n 1, 1) := by decide +kernel
theorem dX0_goToStart_51 : decode cX0_goToStart 51 = .ok (.aload_n 0, 1) := by decide +kernel
theorem dX0_goToStart_52 : decode cX0_goToStart 52 = .ok (.getfield 40, 3) := by decide +kernel
theorem dX0_goToStart_55 : decode cX0_goToStart 55 = .ok (.arraylength, 1) := by decide +kernel
theorem dX0_goToStart_56 : decode cX0_goToStart 56 = .ok (.if_icmp .ge 35, 3) := by decide +kernel
theorem dX0_goToStart_59 : decode cX0_goToStart 59 = .ok (.aload_n 0, 1) := by decide +kernel
theorem dX0_goToStart_60 : decode cX0_goToStart 60 = .ok (.getfield 40, 3) := by decide +kernel
theorem dX0_goToStart_63 : decode cX0_goToStart 63 = .ok (.iload_n 1, 1) := by decide +kernel
theorem dX0_goToStart_64 : decode cX0_goToStart 64 = .ok (.aload_n 0, 1) := by decide +kernel
theorem dX0_goToStart_65 : decode cX0_goToStart 65 = .ok (.getfield 53, 3) := by decide +kernel
theorem dX0_goToStart_68 : decode cX0_goToStart 68 = .ok (.iload_n 1, 1) := by decide +kernel
theorem dX0_goToStart_69 : decode cX0_goToStart 69 = .ok (.iconst 1, 1) := by decide +kernel
theorem dX0_goToStart_70 : decode cX0_goToStart 70 = .ok (.iadd, 1) := by decide +kernel
theorem dX0_goToStart_71 : decode cX0_goToStart 71 = .ok (.aload_n 0, 1) := by decide +kernel
theorem dX0_goToStart_72 : decode cX0_goToStart 72 = .ok (.getfield 13, 3) := by decide +kernel
theorem dX0_goToStart_75 : decode cX0_goToStart 75 = .ok (.imul, 1) := by decide +kernel
theorem dX0_goToStart_76 : decode cX0_goToStart 76 = .ok (.aload_n 0, 1) := by decide +kernel
theorem dX0_goToStart_77 : decode cX0_goToStart 77 = .ok (.getfield 19, 3) := by decide +kernel
theorem dX0_goToStart_80 : decode cX0_goToStart 80 = .ok (.iconst 1, 1) := by decide +kernel
theorem dX0_goToStart_81 : decode cX0_goToStart 81 = .ok (.iadd, 1) := by decide +kernel
theorem dX0_goToStart_82 : decode cX0_goToStart 82 = .ok (.idiv, 1) := by decide +kernel
theorem dX0_goToStart_83 : decode cX0_goToStart 83 = .ok (.isub, 1) := by decide +kernel
theorem dX0_goToStart_84 : decode cX0_goToStart 84 = .ok (.iastore, 1) := by decide +kernel
theorem dX0_goToStart_85 : decode cX0_goToStart 85 = .ok (.iinc 1 1, 3) := by decide +kernel
theorem dX0_goToStart_88 : decode cX0_goToStart 88 = .ok (.goto (-46), 3) := by decide +kernel
theorem dX0_goToStart_91 : decode cX0_goToStart 91 = .ok (.iconst 0, 1) := by decide +kernel
theorem dX0_goToStart_92 : decode cX0_goToStart 92 = .ok (.istore_n 1, 1) := by decide +kernel
theorem dX0_goToStart_93 : decode cX0_goToStart 93 = .ok (.iload_n 1, 1) := by decide +kernel
theorem dX0_goToStart_94 : decode cX0_goToStart 94 = .ok (.aload_n 0, 1) := by decide +kernel
theorem dX0_goToStart_95 : decode cX0_goToStart 95 = .ok (.getfield 44, 3) := by decide +kernel
theorem dX0_goToStart_98 : decode cX0_goToStart 98 = .ok (.arraylength, 1) := by decide +kernel
theorem dX0_goToStart_99 : decode cX0_goToStart 99 = .ok (.if_icmp .ge 32, 3) := by decide +kernel
theorem dX0_goToStart_102 : decode cX0_goToStart 102 = .ok (.iload_n 1, 1) := by decide +kernel
theorem dX0_goToStart_103 : decode cX0_goToStart 103 = .ok (.aload_n 0, 1) := by decide +kernel
theorem dX0_goToStart_104 : decode cX0_goToStart 104 = .ok (.getfield 47, 3) := by decide +kernel
theorem dX0_goToStart_107 : decode cX0_goToStart 107 = .ok (.arraylength, 1) := by decide +kernel
theorem dX0_goToStart_108 : decode cX0_goToStart 108 = .ok (.if_icmp .ge 23, 3) := by decide +kernel
theorem dX0_goToStart_111 : decode cX0_goToStart 111 = .ok (.aload_n 0, 1) := by decide +kernel
theorem dX0_goToStart_112 : decode cX0_goToStart 112 = .ok (.getfield 44, 3) := by decide +kernel
theorem dX0_goToStart_115 : decode cX0_goToStart 115 = .ok (.iload_n 1, 1) := by decide +kernel
theorem dX0_goToStart_116 : decode cX0_goToStart 116 = .ok (.iconst (-1), 1) := by decide +kernel
theorem dX0_goToStart_117 : decode cX0_goToStart 117 = .ok (.iastore, 1) := by decide +kernel
theorem dX0_goToStart_118 : decode cX0_goToStart 118 = .ok (.aload_n 0, 1) := by decide +kernel
theorem dX0_goToStart_119 : decode cX0_goToStart 119 = .ok (.getfield 47, 3) := by decide +kernel
theorem dX0_goToStart_122 : decode cX0_goToStart 122 = .ok (.iload_n 1, 1) := by decide +kernel
theorem dX0_goToStart_123 : decode cX0_goToStart 123 = .ok (.iconst 0, 1) := by decide +kernel
theorem dX0_goToStart_124 : decode cX0_goToStart 124 = .ok (.iastore, 1) := by decide +kernel
theorem dX0_goToStart_125 : decode cX0_goToStart 125 = .ok (.iinc 1 1, 3) := by decide +kernel
theorem dX0_goToStart_128 : decode cX0_goToStart 128 = .ok (.goto (-35), 3) := by decide +kernel
theorem dX0_goToStart_131 : decode cX0_goToStart 131 = .ok (.return_, 1) := by decide +kernel
theorem dX0_copyFrom_0 : decode cX0_copyFrom 0 = .ok (.aload_n 0, 1) := by decide +kernel
theorem dX0_copyFrom_1 : decode cX0_copyFrom 1 = .ok (.aload_n 1, 1) := by decide +kernel
theorem dX0_copyFrom_2 : decode cX0_copyFrom 2 = .ok (.getfield 7, 3) := by decide +kernel
theorem dX0_copyFrom_5 : decode cX0_copyFrom 5 = .ok (.putfield 7, 3) := by decide +kernel
theorem dX0_copyFrom_8 : decode cX0_copyFrom 8 = .ok (.aload_n 0, 1) := by decide +kernel
theorem dX0_copyFrom_9 : decode cX0_copyFrom 9 = .ok (.aload_n 1, 1) := by decide +kernel
theorem dX0_copyFrom_10 : decode cX0_copyFrom 10 = .ok (.getfield 13, 3) := by decide +kernel
theorem dX0_copyFrom_13 : decode cX0_copyFrom 13 = .ok (.putfield 13, 3) := by decide +kernel
theorem dX0_copyFrom_16 : decode cX0_copyFrom 16 = .ok (.aload_n 0, 1) := by decide +kernel
theorem dX0_copyFrom_17 : decode cX0_copyFrom 17 = .ok (.aload_n 1, 1) := by decide +kernel
theorem dX0_copyFrom_18 : decode cX0_copyFrom 18 = .ok (.getfield 16, 3) := by decide +kernel
theorem dX0_copyFrom_21 : decode cX0_copyFrom 21 = .ok (.putfield 16, 3) := by decide +kernel
theorem dX0_copyFrom_24 : decode cX0_copyFrom 24 = .ok (.aload_n 0, 1) := by decide +kernel
theorem dX0_copyFrom_25 : decode cX0_copyFrom 25 = .ok (.aload_n 1, 1) := by decide +kernel
theorem dX0_copyFrom_26 : decode cX0_copyFrom 26 = .ok (.getfield 19, 3) := by decide +kernel
theorem dX0_copyFrom_29 : decode cX0_copyFrom 29 = .ok (.putfield 19, 3) := by decide +kernel
theorem dX0_copyFrom_32 : decode cX0_copyFrom 32 = .ok (.aload_n 0, 1) := by decide +kernel
theorem dX0_copyFrom_33 : decode cX0_copyFrom 33 = .ok (.aload_n 1, 1) := by decide +kernel
theorem dX0_copyFrom_34 : decode cX0_copyFrom 34 = .ok (.getfield 22, 3) := by decide +kernel
theorem dX0_copyFrom_37 : decode cX0_copyFrom 37 = .ok (.putfield 22, 3) := by decide +kernel
theorem dX0_copyFrom_40 : decode cX0_copyFrom 40 = .ok (.aload_n 0, 1) := by decide +kernel
theorem dX0_copyFrom_41 : decode cX0_copyFrom 41 = .ok (.aload_n 1, 1) := by decide +kernel
theorem dX0_copyFrom_42 : decode cX0_copyFrom 42 = .ok (.getfield 25, 3) := by decide +kernel
theorem dX0_copyFrom_45 : decode cX0_copyFrom 45 = .ok (.putfield 25, 3) := by decide +kernel
theorem dX0_copyFrom_48 : decode cX0_copyFrom 48 = .ok (.aload_n 0, 1) := by decide +kernel
theorem dX0_copyFrom_49 : decode cX0_copyFrom 49 = .ok (.aload_n 1, 1) := by decide +kernel
theorem dX0_copyFrom_50 : decode cX0_copyFrom 50 = .ok (.getfield 28, 3) := by decide +kernel
theorem dX0_copyFrom_53 : decode cX0_copyFrom 53 = .ok (.putfield 28, 3) := by decide +kernel
theorem dX0_copyFrom_56 : decode cX0_copyFrom 56 = .ok (.aload_n 0, 1) := by decide +kernel
theorem dX0_copyFrom_57 : decode cX0_copyFrom 57 = .ok (.aload_n 1, 1) := by decide +kernel
theorem dX0_copyFrom_58 : decode cX0_copyFrom 58 = .ok (.getfield 31, 3) := by decide +kernel
theorem dX0_copyFrom_61 : decode cX0_copyFrom 61 = .ok (.putfield 31, 3) := by decide +kernel
theorem dX0_copyFrom_64 : decode cX0_copyFrom 64 = .ok (.aload_n 0, 1) := by decide +kernel
theorem dX0_copyFrom_65 : decode cX0_copyFrom 65 = .ok (.aload_n 1, 1) := by decide +kernel
theorem dX0_copyFrom_66 : decode cX0_copyFrom 66 = .ok (.getfield 34, 3) := by decide +kernel
theorem dX0_copyFrom_69 : decode cX0_copyFrom 69 = .ok (.putfield 34, 3) := by decide +kernel
theorem dX0_copyFrom_72 : decode cX0_copyFrom 72 = .ok (.aload_n 0, 1) := by decide +kernel
theorem dX0_copyFrom_73 : decode cX0_copyFrom 73 = .ok (.aload_n 1, 1) := by decide +kernel
theorem dX0_copyFrom_74 : decode cX0_copyFrom 74 = .ok (.getfield 37, 3) := by decide +kernel
theorem dX0_copyFrom_77 : decode cX0_copyFrom 77 = .ok (.putfield 37, 3) := by decide +kernel
theorem dX0_copyFrom_80 : decode cX0_copyFrom 80 = .ok (.aload_n 0, 1) := by decide +kernel
theorem dX0_copyFrom_81 : decode cX0_copyFrom 81 = .ok (.aload_n 1, 1) := by decide +kernel
theorem dX0_copyFrom_82 : decode cX0_copyFrom 82 = .ok (.getfield 53, 3) := by decide +kernel
theorem dX0_copyFrom_85 : decode cX0_copyFrom 85 = .ok (.putfield 53, 3) := by decide +kernel
theorem dX0_copyFrom_88 : decode cX0_copyFrom 88 = .ok (.aload_n 0, 1) := by decide +kernel
theorem dX0_copyFrom_89 : decode cX0_copyFrom 89 = .ok (.aload_n 1, 1) := by decide +kernel
theorem dX0_copyFrom_90 : decode cX0_copyFrom 90 = .ok (.getfield 56, 3) := by decide +kernel
theorem dX0_copyFrom_93 : decode cX0_copyFrom 93 = .ok (.putfield 56, 3) := by decide +kernel
theorem dX0_copyFrom_96 : decode cX0_copyFrom 96 = .ok (.aload_n 0, 1) := by decide +kernel
theorem dX0_copyFrom_97 : decode cX0_copyFrom 97 = .ok (.aload_n 1, 1) := by decide +kernel
theorem dX0_copyFrom_98 : decode cX0_copyFrom 98 = .ok (.getfield 59, 3) := by decide +kernel
theorem dX0_copyFrom_101 : decode cX0_copyFrom 101 = .ok (.putfield 59, 3) := by decide +kernel
theorem dX0_copyFrom_104 : decode cX0_copyFrom 104 = .ok (.aload_n 0, 1) := by decide +kernel
theorem dX0_copyFrom_105 : decode cX0_copyFrom 105 = .ok (.aload_n 1, 1) := by decide +kernel
theorem dX0_copyFrom_106 : decode cX0_copyFrom 106 = .ok (.getfield 62, 3) := by decide +kernel
theorem dX0_copyFrom_109 : decode cX0_copyFrom 109 = .ok (.putfield 62, 3) := by decide +kernel
theorem dX0_copyFrom_112 : decode cX0_copyFrom 112 = .ok (.aload_n 0, 1) := by decide +kernel
theorem dX0_copyFrom_113 : decode cX0_copyFrom 113 = .ok (.aload_n 1, 1) := by decide +kernel
theorem dX0_copyFrom_114 : decode cX0_copyFrom 114 = .ok (.getfield 65, 3) := by decide +kernel
theorem dX0_copyFrom_117 : decode cX0_copyFrom 117 = .ok (.putfield 65, 3) := by decide +kernel
theorem dX0_copyFrom_120 : decode cX0_copyFrom 120 = .ok (.aload_n 0, 1) := by decide +kernel
theorem dX0_copyFrom_121 : decode cX0_copyFrom 121 = .ok (.aload_n 1, 1) := by decide +kernel
theorem dX0_copyFrom_122 : decode cX0_copyFrom 122 = .ok (.getfield 68, 3) := by decide +kernel
theorem dX0_copyFrom_125 : decode cX0_copyFrom 125 = .ok (.putfield 68, 3) := by decide +kernel
theorem dX0_copyFrom_128 : decode cX0_copyFrom 128 = .ok (.aload_n 0, 1) := by decide +kernel
theorem dX0_copyFrom_129 : decode cX0_copyFrom 129 = .ok (.aload_n 1, 1) := by decide +kernel
theorem dX0_copyFrom_130 : decode cX0_copyFrom 130 = .ok (.getfield 71, 3) := by decide +kernel
theorem dX0_copyFrom_133 : decode cX0_copyFrom 133 = .ok (.putfield 71, 3) := by decide +kernel
theorem dX0_copyFrom_136 : decode cX0_copyFrom 136 = .ok (.aload_n 1, 1) := by decide +kernel
theorem dX0_copyFrom_137 : decode cX0_copyFrom 137 = .ok (.getfield 40, 3) := by decide +kernel
theorem dX0_copyFrom_140 : decode cX0_copyFrom 140 = .ok (.aload_n 0, 1) := by decide +kernel
theorem dX0_copyFrom_141 : decode cX0_copyFrom 141 = .ok (.getfield 40, 3) := by decide +kernel
theorem dX0_copyFrom_144 : decode cX0_copyFrom 144 = .ok (.invokestatic 74, 3) := by decide +kernel
theorem dX0_copyFrom_147 : decode cX0_copyFrom 147 = .ok (.aload_n 1, 1) := by decide +kernel
theorem dX0_copyFrom_148 : decode cX0_copyFrom 148 = .ok (.getfield 44, 3) := by decide +kernel
theorem dX0_copyFrom_151 : decode cX0_copyFrom 151 = .ok (.aload_n 0, 1) := by decide +kernel
theorem dX0_copyFrom_152 : decode cX0_copyFrom 152 = .ok (.getfield 44, 3) := by decide +kernel
theorem dX0_copyFrom_155 : decode cX0_copyFrom 155 = .ok (.invokestatic 74, 3) := by decide +kernel
theorem dX0_copyFrom_158 : decode cX0_copyFrom 158 = .ok (.aload_n 1, 1) := by decide +kernel
theorem dX0_copyFrom_159 : decode cX0_copyFrom 159 = .ok (.getfield 47, 3) := by decide +kernel
theorem dX0_copyFrom_162 : decode cX0_copyFrom 162 = .ok (.aload_n 0, 1) := by decide +kernel
theorem dX0_copyFrom_163 : decode cX0_copyFrom 163 = .ok (.getfield 47, 3) := by decide +kernel
theorem dX0_copyFrom_166 : decode cX0_copyFrom 166 = .ok (.invokestatic 74, 3) := by decide +kernel
theorem dX0_copyFrom_169 : decode cX0_copyFrom 169 = .ok (.return_, 1) := by decide +kernel
theorem dX0_copyRow_0 : decode cX0_copyRow 0 = .ok (.iconst 0, 1) := by decide +kernel
theorem dX0_copyRow_1 : decode cX0_copyRow 1 = .ok (.istore_n 2, 1) := by decide +kernel
theorem dX0_copyRow_2 : decode cX0_copyRow 2 = .ok (.iload_n 2, 1) := by decide +kernel
theorem dX0_copyRow_3 : decode cX0_copyRow 3 = .ok (.aload_n 0, 1) := by decide +kernel
theorem dX0_copyRow_4 : decode cX0_copyRow 4 = .ok (.arraylength, 1) := by decide +kernel
theorem dX0_copyRow_5 : decode cX0_copyRow 5 = .ok (.if_icmp .ge 21, 3) := by decide +kernel
theorem dX0_copyRow_8 : decode cX0_copyRow 8 = .ok (.iload_n 2, 1) := by decide +kernel
theorem dX0_copyRow_9 : decode cX0_copyRow 9 = .ok (.aload_n 1, 1) := by decide +kernel
theorem dX0_copyRow_10 : decode cX0_copyRow 10 = .ok (.arraylength, 1) := by decide +kernel
theorem dX0_copyRow_11 : decode cX0_copyRow 11 = .ok (.if_icmp .ge 15, 3) := by decide +kernel
theorem dX0_copyRow_14 : decode cX0_copyRow 14 = .ok (.aload_n 1, 1) := by decide +kernel
theorem dX0_copyRow_15 : decode cX0_copyRow 15 = .ok (.iload_n 2, 1) := by decide +kernel
theorem dX0_copyRow_16 : decode cX0_copyRow 16 = .ok (.aload_n 0, 1) := by decide +kernel
theorem dX0_copyRow_17 : decode cX0_copyRow 17 = .ok (.iload_n 2, 1) := by decide +kernel
theorem dX0_copyRow_18 : decode cX0_copyRow 18 = .ok (.iaload, 1) := by decide +kernel
theorem dX0_copyRow_19 : decode cX0_copyRow 19 = .ok (.iastore, 1) := by decide +kernel
theorem dX0_copyRow_20 : decode cX0_copyRow 20 = .ok (.iinc 2 1, 3) := by decide +kernel
theorem dX0_copyRow_23 : decode cX0_copyRow 23 = .ok (.goto (-21), 3) := by decide +kernel
theorem dX0_copyRow_26 : decode cX0_copyRow 26 = .ok (.return_, 1) := by decide +kernel
theorem dX0_passTick_0 : decode cX0_passTick 0 = .ok (.aload_n 0, 1) := by decide +kernel
theorem dX0_passTick_1 : decode cX0_passTick 1 = .ok (.invokevirtual 78, 3) := by decide +kernel
theorem dX0_passTick_4 : decode cX0_passTick 4 = .ok (.ifCond .eq 4, 3) := by decide +kernel
theorem dX0_passTick_7 : decode cX0_passTick 7 = .ok (.return_, 1) := by decide +kernel
theorem dX0_passTick_8 : decode cX0_passTick 8 = .ok (.aload_n 0, 1) := by decide +kernel
theorem dX0_passTick_9 : decode cX0_passTick 9 = .ok (.invokevirtual 82, 3) := by decide +kernel
theorem dX0_passTick_12 : decode cX0_passTick 12 = .ok (.istore_n 3, 1) := by decide +kernel
theorem dX0_passTick_13 : decode cX0_passTick 13 = .ok (.aload_n 0, 1) := by decide +kernel
theorem dX0_passTick_14 : decode cX0_passTick 14 = .ok (.getfield 62, 3) := by decide +kernel
theorem dX0_passTick_17 : decode cX0_passTick 17 = .ok (.ifCond .ne 15, 3) := by decide +kernel
theorem dX0_passTick_20 : decode cX0_passTick 20 = .ok (.iload_n 3, 1) := by decide +kernel
theorem dX0_passTick_21 : decode cX0_passTick 21 = .ok (.aload_n 0, 1) := by decide +kernel
theorem dX0_passTick_22 : decode cX0_passTick 22 = .ok (.getfield 59, 3) := by decide +kernel
theorem dX0_passTick_25 : decode cX0_passTick 25 = .ok (.if_icmp .le 7, 3) := by decide +kernel
theorem dX0_passTick_28 : decode cX0_passTick 28 = .ok (.aload_n 0, 1) := by decide +kernel
theorem dX0_passTick_29 : decode cX0_passTick 29 = .ok (.invokevirtual 86, 3) := by decide +kernel
theorem dX0_passTick_32 : decode cX0_passTick 32 = .ok (.aload_n 0, 1) := by decide +kernel
theorem dX0_passTick_33 : decode cX0_passTick 33 = .ok (.getfield 62, 3) := by decide +kernel
theorem dX0_passTick_36 : decode cX0_passTick 36 = .ok (.ifCond .le 24, 3) := by decide +kernel
theorem dX0_passTick_39 : decode cX0_passTick 39 = .ok (.aload_n 0, 1) := by decide +kernel
theorem dX0_passTick_40 : decode cX0_passTick 40 = .ok (.dup, 1) := by decide +kernel
theorem dX0_passTick_41 : decode cX0_passTick 41 = .ok (.getfield 62, 3) := by decide +kernel
theorem dX0_passTick_44 : decode cX0_passTick 44 = .ok (.iconst 1, 1) := by decide +kernel
theorem dX0_passTick_45 : decode cX0_passTick 45 = .ok (.isub, 1) := by decide +kernel
theorem dX0_passTick_46 : decode cX0_passTick 46 = .ok (.putfield 62, 3) := by decide +kernel
theorem dX0_passTick_49 : decode cX0_passTick 49 = .ok (.aload_n 0, 1) := by decide +kernel
theorem dX0_passTick_50 : decode cX0_passTick 50 = .ok (.iconst 0, 1) := by decide +kernel
theorem dX0_passTick_51 : decode cX0_passTick 51 = .ok (.putfield 68, 3) := by decide +kernel
theorem dX0_passTick_54 : decode cX0_passTick 54 = .ok (.aload_n 0, 1) := by decide +kernel
theorem dX0_passTick_55 : decode cX0_passTick 55 = .ok (.iconst 0, 1) := by decide +kernel
theorem dX0_passTick_56 : decode cX0_passTick 56 = .ok (.invokevirtual 89, 3) := by decide +kernel
theorem dX0_passTick_59 : decode cX0_passTick 59 = .ok (.return_, 1) := by decide +kernel
theorem dX0_passTick_60 : decode cX0_passTick 60 = .ok (.aload_n 0, 1) := by decide +kernel
theorem dX0_passTick_61 : decode cX0_passTick 61 = .ok (.aload_n 0, 1) := by decide +kernel
theorem dX0_passTick_62 : decode cX0_passTick 62 = .ok (.iload_n 3, 1) := by decide +kernel
theorem dX0_passTick_63 : decode cX0_passTick 63 = .ok (.aload_n 0, 1) := by decide +kernel
theorem dX0_passTick_64 : decode cX0_passTick 64 = .ok (.aload_n 2, 1) := by decide +kernel
theorem dX0_passTick_65 : decode cX0_passTick 65 = .ok (.invokevirtual 93, 3) := by decide +kernel
theorem dX0_passTick_68 : decode cX0_passTick 68 = .ok (.invokevirtual 97, 3) := by decide +kernel
theorem dX0_passTick_71 : decode cX0_passTick 71 = .ok (.putfield 68, 3) := by decide +kernel
theorem dX0_passTick_74 : decode cX0_passTick 74 = .ok (.aload_n 0, 1) := by decide +kernel
theorem dX0_passTick_75 : decode cX0_passTick 75 = .ok (.invokevirtual 101, 3) := by decide +kernel
theorem dX0_passTick_78 : decode cX0_passTick 78 = .ok (.aload_n 0, 1) := by decide +kernel
theorem dX0_passTick_79 : decode cX0_passTick 79 = .ok (.invokevirtual 104, 3) := by decide +kernel
theorem dX0_passTick_82 : decode cX0_passTick 82 = .ok (.aload_n 0, 1) := by decide +kernel
theorem dX0_passTick_83 : decode cX0_passTick 83 = .ok (.aload_n 0, 1) := by decide +kernel
theorem dX0_passTick_84 : decode cX0_passTick 84 = .ok (.getfield 34, 3) := by decide +kernel
theorem dX0_passTick_87 : decode cX0_passTick 87 = .ok (.invokevirtual 89, 3) := by decide +kernel
theorem dX0_passTick_90 : decode cX0_passTick 90 = .ok (.aload_n 0, 1) := by decide +kernel
theorem dX0_passTick_91 : decode cX0_passTick 91 = .ok (.getfield 53, 3) := by decide +kernel
theorem dX0_passTick_94 : decode cX0_passTick 94 = .ok (.aload_n 2, 1) := by decide +kernel
theorem dX0_passTick_95 : decode cX0_passTick 95 = .ok (.getfield 107, 3) := by decide +kernel
theorem dX0_passTick_98 : decode cX0_passTick 98 = .ok (.if_icmp .lt 8, 3) := by decide +kernel
theorem dX0_passTick_101 : decode cX0_passTick 101 = .ok (.aload_n 0, 1) := by decide +kernel
theorem dX0_passTick_102 : decode cX0_passTick 102 = .ok (.iload_n 1, 1) := by decide +kernel
theorem dX0_passTick_103 : decode cX0_passTick 103 = .ok (.putfield 71, 3) := by decide +kernel
theorem dX0_passTick_106 : decode cX0_passTick 106 = .ok (.return_, 1) := by decide +kernel
theorem dX0_pull_0 : decode cX0_pull 0 = .ok (.aload_n 0, 1) := by decide +kernel
theorem dX0_pull_1 : decode cX0_pull 1 = .ok (.getfield 22, 3) := by decide +kernel
theorem dX0_pull_4 : decode cX0_pull 4 = .ok (.aload_n 0, 1) := by decide +kernel
theorem dX0_pull_5 : decode cX0_pull 5 = .ok (.getfield 25, 3) := by decide +kernel
theorem dX0_pull_8 : decode cX0_pull 8 = .ok (.imul, 1) := by decide +kernel
theorem dX0_pull_9 : decode cX0_pull 9 = .ok (.aload_n 0, 1) := by decide +kernel
theorem dX0_pull_10 : decode cX0_pull 10 = .ok (.getfield 34, 3) := by decide +kernel
theorem dX0_pull_13 : decode cX0_pull 13 = .ok (.imul, 1) := by decide +kernel
theorem dX0_pull_14 : decode cX0_pull 14 = .ok (.sipush 500, 3) := by decide +kernel
theorem dX0_pull_17 : decode cX0_pull 17 = .ok (.aload_n 0, 1) := by decide +kernel
theorem dX0_pull_18 : decode cX0_pull 18 = .ok (.getfield 56, 3) := by decide +kernel
theorem dX0_pull_21 : decode cX0_pull 21 = .ok (.iadd, 1) := by decide +kernel
theorem dX0_pull_22 : decode cX0_pull 22 = .ok (.imul, 1) := by decide +kernel
theorem dX0_pull_23 : decode cX0_pull 23 = .ok (.sipush 5000, 3) := by decide +kernel
theorem dX0_pull_26 : decode cX0_pull 26 = .ok (.idiv, 1) := by decide +kernel
theorem dX0_pull_27 : decode cX0_pull 27 = .ok (.ireturn, 1) := by decide +kernel
theorem dX0_breakRope_0 : decode cX0_breakRope 0 = .ok (.aload_n 0, 1) := by decide +kernel
theorem dX0_breakRope_1 : decode cX0_breakRope 1 = .ok (.bipush 10, 2) := by decide +kernel
theorem dX0_breakRope_3 : decode cX0_breakRope 3 = .ok (.aload_n 0, 1) := by decide +kernel
theorem dX0_breakRope_4 : decode cX0_breakRope 4 = .ok (.getfield 59, 3) := by decide +kernel
theorem dX0_breakRope_7 : decode cX0_breakRope 7 = .ok (.aload_n 0, 1) := by decide +kernel
theorem dX0_breakRope_8 : decode cX0_breakRope 8 = .ok (.getfield 59, 3) := by decide +kernel
theorem dX0_breakRope_11 : decode cX0_breakRope 11 = .ok (.bipush 10, 2) := by decide +kernel
theorem dX0_breakRope_13 : decode cX0_breakRope 13 = .ok (.idiv, 1) := by decide +kernel
theorem dX0_breakRope_14 : decode cX0_breakRope 14 = .ok (.isub, 1) := by decide +kernel
theorem dX0_breakRope_15 : decode cX0_breakRope 15 = .ok (.invokestatic 110, 3) := by decide +kernel
theorem dX0_breakRope_18 : decode cX0_breakRope 18 = .ok (.putfield 59, 3) := by decide +kernel
theorem dX0_breakRope_21 : decode cX0_breakRope 21 = .ok (.aload_n 0, 1) := by decide +kernel
theorem dX0_breakRope_22 : decode cX0_breakRope 22 = .ok (.bipush 15, 2) := by decide +kernel
theorem dX0_breakRope_24 : decode cX0_breakRope 24 = .ok (.putfield 62, 3) := by decide +kernel
theorem dX0_breakRope_27 : decode cX0_breakRope 27 = .ok (.aload_n 0, 1) := by decide +kernel
theorem dX0_breakRope_28 : decode cX0_breakRope 28 = .ok (.dup, 1) := by decide +kernel
theorem dX0_breakRope_29 : decode cX0_breakRope 29 = .ok (.getfield 65, 3) := by decide +kernel
theorem dX0_breakRope_32 : decode cX0_breakRope 32 = .ok (.iconst 1, 1) := by decide +kernel
theorem dX0_breakRope_33 : decode cX0_breakRope 33 = .ok (.iadd, 1) := by decide +kernel
theorem dX0_breakRope_34 : decode cX0_breakRope 34 = .ok (.putfield 65, 3) := by decide +kernel
theorem dX0_breakRope_37 : decode cX0_breakRope 37 = .ok (.return_, 1) := by decide +kernel
theorem dX0_drag_0 : decode cX0_drag 0 = .ok (.aload_n 1, 1) := by decide +kernel
theorem dX0_drag_1 : decode cX0_drag 1 = .ok (.aload_n 0, 1) := by decide +kernel
theorem dX0_drag_2 : decode cX0_drag 2 = .ok (.getfield 53, 3) := by decide +kernel
theorem dX0_drag_5 : decode cX0_drag 5 = .ok (.iconst 0, 1) := by decide +kernel
theorem dX0_drag_6 : decode cX0_drag 6 = .ok (.invokevirtual 115, 3) := by decide +kernel
theorem dX0_drag_9 : decode cX0_drag 9 = .ok (.istore_n 2, 1) := by decide +kernel
theorem dX0_drag_10 : decode cX0_drag 10 = .ok (.aload_n 1, 1) := by decide +kernel
theorem dX0_drag_11 : decode cX0_drag 11 = .ok (.aload_n 0, 1) := by decide +kernel
theorem dX0_drag_12 : decode cX0_drag 12 = .ok (.getfield 53, 3) := by decide +kernel
theorem dX0_drag_15 : decode cX0_drag 15 = .ok (.iconst 1, 1) := by decide +kernel
theorem dX0_drag_16 : decode cX0_drag 16 = .ok (.invokevirtual 115, 3) := by decide +kernel
theorem dX0_drag_19 : decode cX0_drag 19 = .ok (.istore_n 3, 1) := by decide +kernel
theorem dX0_drag_20 : decode cX0_drag 20 = .ok (.iconst 0, 1) := by decide +kernel
theorem dX0_drag_21 : decode cX0_drag 21 = .ok (.aload_n 0, 1) := by decide +kernel
theorem dX0_drag_22 : decode cX0_drag 22 = .ok (.getfield 16, 3) := by decide +kernel
theorem dX0_drag_25 : decode cX0_drag 25 = .ok (.bipush 20, 2) := by decide +kernel
theorem dX0_drag_27 : decode cX0_drag 27 = .ok (.bipush 10, 2) := by decide +kernel
theorem dX0_drag_29 : decode cX0_drag 29 = .ok (.iload_n 2, 1) := by decide +kernel
theorem dX0_drag_30 : decode cX0_drag 30 = .ok (.imul, 1) := by decide +kernel
theorem dX0_drag_31 : decode cX0_drag 31 = .ok (.iadd, 1) := by decide +kernel
theorem dX0_drag_32 : decode cX0_drag 32 = .ok (.iconst 4, 1) := by decide +kernel
theorem dX0_drag_33 : decode cX0_drag 33 = .ok (.iload_n 3, 1) := by decide +kernel
theorem dX0_drag_34 : decode cX0_drag 34 = .ok (.imul, 1) := by decide +kernel
theorem dX0_drag_35 : decode cX0_drag 35 = .ok (.iadd, 1) := by decide +kernel
theorem dX0_drag_36 : decode cX0_drag 36 = .ok (.imul, 1) := by decide +kernel
theorem dX0_drag_37 : decode cX0_drag 37 = .ok (.bipush 10, 2) := by decide +kernel
theorem dX0_drag_39 : decode cX0_drag 39 = .ok (.idiv, 1) := by decide +kernel
theorem dX0_drag_40 : decode cX0_drag 40 = .ok (.invokestatic 110, 3) := by decide +kernel
theorem dX0_drag_43 : decode cX0_drag 43 = .ok (.istore 4, 2) := by decide +kernel
theorem dX0_drag_45 : decode cX0_drag 45 = .ok (.aload_n 0, 1) := by decide +kernel
theorem dX0_drag_46 : decode cX0_drag 46 = .ok (.iconst 0, 1) := by decide +kernel
theorem dX0_drag_47 : decode cX0_drag 47 = .ok (.invokevirtual 119, 3) := by decide +kernel
theorem dX0_drag_50 : decode cX0_drag 50 = .ok (.istore 5, 2) := by decide +kernel
theorem dX0_drag_52 : decode cX0_drag 52 = .ok (.iload 5, 2) := by decide +kernel
theorem dX0_drag_54 : decode cX0_drag 54 = .ok (.iconst 4, 1) := by decide +kernel
theorem dX0_drag_55 : decode cX0_drag 55 = .ok (.invokestatic 123, 3) := by decide +kernel
theorem dX0_drag_58 : decode cX0_drag 58 = .ok (.aload_n 0, 1) := by decide +kernel
theorem dX0_drag_59 : decode cX0_drag 59 = .ok (.getfield 16, 3) := by decide +kernel
theorem dX0_drag_62 : decode cX0_drag 62 = .ok (.bipush 6, 2) := by decide +kernel
theorem dX0_drag_64 : decode cX0_drag 64 = .ok (.iload_n 3, 1) := by decide +kernel
theorem dX0_drag_65 : decode cX0_drag 65 = .ok (.iconst 2, 1) := by decide +kernel
theorem dX0_drag_66 : decode cX0_drag 66 = .ok (.idiv, 1) := by decide +kernel
theorem dX0_drag_67 : decode cX0_drag 67 = .ok (.isub, 1) := by decide +kernel
theorem dX0_drag_68 : decode cX0_drag 68 = .ok (.imul, 1) := by decide +kernel
theorem dX0_drag_69 : decode cX0_drag 69 = .ok (.bipush 10, 2) := by decide +kernel
theorem dX0_drag_71 : decode cX0_drag 71 = .ok (.idiv, 1) := by decide +kernel
theorem dX0_drag_72 : decode cX0_drag 72 = .ok (.imul, 1) := by decide +kernel
theorem dX0_drag_73 : decode cX0_drag 73 = .ok (.istore 6, 2) := by decide +kernel
theorem dX0_drag_75 : decode cX0_drag 75 = .ok (.iload 4, 2) := by decide +kernel
theorem dX0_drag_77 : decode cX0_drag 77 = .ok (.iload 6, 2) := by decide +kernel
theorem dX0_drag_79 : decode cX0_drag 79 = .ok (.isub, 1) := by decide +kernel
theorem dX0_drag_80 : decode cX0_drag 80 = .ok (.aload_n 0, 1) := by decide +kernel
theorem dX0_drag_81 : decode cX0_drag 81 = .ok (.getfield 16, 3) := by decide +kernel
theorem dX0_drag_84 : decode cX0_drag 84 = .ok (.bipush 10, 2) := by decide +kernel
theorem dX0_drag_86 : decode cX0_drag 86 = .ok (.idiv, 1) := by decide +kernel
theorem dX0_drag_87 : decode cX0_drag 87 = .ok (.invokestatic 110, 3) := by decide +kernel
theorem dX0_drag_90 : decode cX0_drag 90 = .ok (.istore 7, 2) := by decide +kernel
theorem dX0_drag_92 : decode cX0_drag 92 = .ok (.iload 5, 2) := by decide +kernel
theorem dX0_drag_94 : decode cX0_drag 94 = .ok (.iconst 2, 1) := by decide +kernel
theorem dX0_drag_95 : decode cX0_drag 95 = .ok (.if_icmp .ge 10, 3) := by decide +kernel
theorem dX0_drag_98 : decode cX0_drag 98 = .ok (.iconst 2, 1) := by decide +kernel
theorem dX0_drag_99 : decode cX0_drag 99 = .ok (.iload 7, 2) := by decide +kernel
theorem dX0_drag_101 : decode cX0_drag 101 = .ok (.imul, 1) := by decide +kernel
theorem dX0_drag_102 : decode cX0_drag 102 = .ok (.goto 5, 3) := by decide +kernel
theorem dX0_drag_105 : decode cX0_drag 105 = .ok (.iload 7, 2) := by decide +kernel
theorem dX0_drag_107 : decode cX0_drag 107 = .ok (.ireturn, 1) := by decide +kernel
theorem dX0_wayWith_0 : decode cX0_wayWith 0 = .ok (.aload_n 0, 1) := by decide +kernel
theorem dX0_wayWith_1 : decode cX0_wayWith 1 = .ok (.getfield 16, 3) := by decide +kernel
theorem dX0_wayWith_4 : decode cX0_wayWith 4 = .ok (.ifCond .gt 5, 3) := by decide +kernel
theorem dX0_wayWith_7 : decode cX0_wayWith 7 = .ok (.iconst 0, 1) := by decide +kernel
theorem dX0_wayWith_8 : decode cX0_wayWith 8 = .ok (.ireturn, 1) := by decide +kernel
theorem dX0_wayWith_9 : decode cX0_wayWith 9 = .ok (.bipush 12, 2) := by decide +kernel
theorem dX0_wayWith_11 : decode cX0_wayWith 11 = .ok (.iconst 0, 1) := by decide +kernel
theorem dX0_wayWith_12 : decode cX0_wayWith 12 = .ok (.iload_n 1, 1) := by decide +kernel
theorem dX0_wayWith_13 : decode cX0_wayWith 13 = .ok (.iload_n 2, 1) := by decide +kernel
theorem dX0_wayWith_14 : decode cX0_wayWith 14 = .ok (.isub, 1) := by decide +kernel
theorem dX0_wayWith_15 : decode cX0_wayWith 15 = .ok (.iconst 4, 1) := by decide +kernel
theorem dX0_wayWith_16 : decode cX0_wayWith 16 = .ok (.imul, 1) := by decide +kernel
theorem dX0_wayWith_17 : decode cX0_wayWith 17 = .ok (.aload_n 0, 1) := by decide +kernel
theorem dX0_wayWith_18 : decode cX0_wayWith 18 = .ok (.getfield 16, 3) := by decide +kernel
theorem dX0_wayWith_21 : decode cX0_wayWith 21 = .ok (.idiv, 1) := by decide +kernel
theorem dX0_wayWith_22 : decode cX0_wayWith 22 = .ok (.invokestatic 110, 3) := by decide +kernel
theorem dX0_wayWith_25 : decode cX0_wayWith 25 = .ok (.invokestatic 123, 3) := by decide +kernel
theorem dX0_wayWith_28 : decode cX0_wayWith 28 = .ok (.ireturn, 1) := by decide +kernel
theorem dX0_moveOn_0 : decode cX0_moveOn 0 = .ok (.iconst 0, 1) := by decide +kernel
theorem dX0_moveOn_1 : decode cX0_moveOn 1 = .ok (.istore_n 1, 1) := by decide +kernel
theorem dX0_moveOn_2 : decode cX0_moveOn 2 = .ok (.iload_n 1, 1) := by decide +kernel
theorem dX0_moveOn_3 : decode cX0_moveOn 3 = .ok (.aload_n 0, 1) := by decide +kernel
theorem dX0_moveOn_4 : decode cX0_moveOn 4 = .ok (.getfield 19, 3) := by decide +kernel
theorem dX0_moveOn_7 : decode cX0_moveOn 7 = .ok (.if_icmp .ge 46, 3) := by decide +kernel
theorem dX0_moveOn_10 : decode cX0_moveOn 10 = .ok (.iload_n 1, 1) := by decide +kernel
theorem dX0_moveOn_11 : decode cX0_moveOn 11 = .ok (.aload_n 0, 1) := by decide +kernel
theorem dX0_moveOn_12 : decode cX0_moveOn 12 = .ok (.getfield 40, 3) := by decide +kernel
theorem dX0_moveOn_15 : decode cX0_moveOn 15 = .ok (.arraylength, 1) := by decide +kernel
theorem dX0_moveOn_16 : decode cX0_moveOn 16 = .ok (.if_icmp .ge 37, 3) := by decide +kernel
theorem dX0_moveOn_19 : decode cX0_moveOn 19 = .ok (.aload_n 0, 1) := by decide +kernel
theorem dX0_moveOn_20 : decode cX0_moveOn 20 = .ok (.aload_n 0, 1) := by decide +kernel
theorem dX0_moveOn_21 : decode cX0_moveOn 21 = .ok (.getfield 40, 3) := by decide +kernel
theorem dX0_moveOn_24 : decode cX0_moveOn 24 = .ok (.iload_n 1, 1) := by decide +kernel
theorem dX0_moveOn_25 : decode cX0_moveOn 25 = .ok (.iaload, 1) := by decide +kernel
theorem dX0_moveOn_26 : decode cX0_moveOn 26 = .ok (.invokevirtual 126, 3) := by decide +kernel
theorem dX0_moveOn_29 : decode cX0_moveOn 29 = .ok (.ifCond .ne 18, 3) := by decide +kernel
theorem dX0_moveOn_32 : decode cX0_moveOn 32 = .ok (.aload_n 0, 1) := by decide +kernel
theorem dX0_moveOn_33 : decode cX0_moveOn 33 = .ok (.getfield 40, 3) := by decide +kernel
theorem dX0_moveOn_36 : decode cX0_moveOn 36 = .ok (.iload_n 1, 1) := by decide +kernel
theorem dX0_moveOn_37 : decode cX0_moveOn 37 = .ok (.dup2, 1) := by decide +kernel
theorem dX0_moveOn_38 : decode cX0_moveOn 38 = .ok (.iaload, 1) := by decide +kernel
theorem dX0_moveOn_39 : decode cX0_moveOn 39 = .ok (.aload_n 0, 1) := by decide +kernel
theorem dX0_moveOn_40 : decode cX0_moveOn 40 = .ok (.getfield 68, 3) := by decide +kernel
theorem dX0_moveOn_43 : decode cX0_moveOn 43 = .ok (.iconst 2, 1) := by decide +kernel
theorem dX0_moveOn_44 : decode cX0_moveOn 44 = .ok (.idiv, 1) := by decide +kernel
theorem dX0_moveOn_45 : decode cX0_moveOn 45 = .ok (.iadd, 1) := by decide +kernel
theorem dX0_moveOn_46 : decode cX0_moveOn 46 = .ok (.iastore, 1) := by decide +kernel
theorem dX0_moveOn_47 : decode cX0_moveOn 47 = .ok (.iinc 1 1, 3) := by decide +kernel
theorem dX0_moveOn_50 : decode cX0_moveOn 50 = .ok (.goto (-48), 3) := by decide +kernel
theorem dX0_moveOn_53 : decode cX0_moveOn 53 = .ok (.aload_n 0, 1) := by decide +kernel
theorem dX0_moveOn_54 : decode cX0_moveOn 54 = .ok (.dup, 1) := by decide +kernel
theorem dX0_moveOn_55 : decode cX0_moveOn 55 = .ok (.getfield 53, 3) := by decide +kernel
theorem dX0_moveOn_58 : decode cX0_moveOn 58 = .ok (.aload_n 0, 1) := by decide +kernel
theorem dX0_moveOn_59 : decode cX0_moveOn 59 = .ok (.getfield 68, 3) := by decide +kernel
theorem dX0_moveOn_62 : decode cX0_moveOn 62 = .ok (.iadd, 1) := by decide +kernel
theorem dX0_moveOn_63 : decode cX0_moveOn 63 = .ok (.putfield 53, 3) := by decide +kernel
theorem dX0_moveOn_66 : decode cX0_moveOn 66 = .ok (.return_, 1) := by decide +kernel
theorem dX0_sendRunners_0 : decode cX0_sendRunners 0 = .ok (.iconst 0, 1) := by decide +kernel
theorem dX0_sendRunners_1 : decode cX0_sendRunners 1 = .ok (.istore_n 1, 1) := by decide +kernel
theorem dX0_sendRunners_2 : decode cX0_sendRunners 2 = .ok (.iload_n 1, 1) := by decide +kernel
theorem dX0_sendRunners_3 : decode cX0_sendRunners 3 = .ok (.aload_n 0, 1) := by decide +kernel
theorem dX0_sendRunners_4 : decode cX0_sendRunners 4 = .ok (.getfield 28, 3) := by decide +kernel
theorem dX0_sendRunners_7 : decode cX0_sendRunners 7 = .ok (.if_icmp .ge 157, 3) := by decide +kernel
theorem dX0_sendRunners_10 : decode cX0_sendRunners 10 = .ok (.iload_n 1, 1) := by decide +kernel
theorem dX0_sendRunners_11 : decode cX0_sendRunners 11 = .ok (.aload_n 0, 1) := by decide +kernel
theorem dX0_sendRunners_12 : decode cX0_sendRunners 12 = .ok (.getfield 44, 3) := by decide +kernel
theorem dX0_sendRunners_15 : decode cX0_sendRunners 15 = .ok (.arraylength, 1) := by decide +kernel
theorem dX0_sendRunners_16 : decode cX0_sendRunners 16 = .ok (.if_icmp .ge 148, 3) := by decide +kernel
theorem dX0_sendRunners_19 : decode cX0_sendRunners 19 = .ok (.iload_n 1, 1) := by decide +kernel
theorem dX0_sendRunners_20 : decode cX0_sendRunners 20 = .ok (.aload_n 0, 1) := by decide +kernel
theorem dX0_sendRunners_21 : decode cX0_sendRunners 21 = .ok (.getfield 47, 3) := by decide +kernel
theorem dX0_sendRunners_24 : decode cX0_sendRunners 24 = .ok (.arraylength, 1) := by decide +kernel
theorem dX0_sendRunners_25 : decode cX0_sendRunners 25 = .ok (.if_icmp .ge 139, 3) := by decide +kernel
theorem dX0_sendRunners_28 : decode cX0_sendRunners 28 = .ok (.aload_n 0, 1) := by decide +kernel
theorem dX0_sendRunners_29 : decode cX0_sendRunners 29 = .ok (.getfield 44, 3) := by decide +kernel
theorem dX0_sendRunners_32 : decode cX0_sendRunners 32 = .ok (.iload_n 1, 1) := by decide +kernel
theorem dX0_sendRunners_33 : decode cX0_sendRunners 33 = .ok (.iaload, 1) := by decide +kernel
theorem dX0_sendRunners_34 : decode cX0_sendRunners 34 = .ok (.istore_n 2, 1) := by decide +kernel
theorem dX0_sendRunners_35 : decode cX0_sendRunners 35 = .ok (.iload_n 2, 1) := by decide +kernel
theorem dX0_sendRunners_36 : decode cX0_sendRunners 36 = .ok (.iconst (-1), 1) := by decide +kernel
theorem dX0_sendRunners_37 : decode cX0_sendRunners 37 = .ok (.if_icmp .ne 67, 3) := by decide +kernel
theorem dX0_sendRunners_40 : decode cX0_sendRunners 40 = .ok (.aload_n 0, 1) := by decide +kernel
theorem dX0_sendRunners_41 : decode cX0_sendRunners 41 = .ok (.invokevirtual 129, 3) := by decide +kernel
theorem dX0_sendRunners_44 : decode cX0_sendRunners 44 = .ok (.istore_n 3, 1) := by decide +kernel
theorem dX0_sendRunners_45 : decode cX0_sendRunners 45 = .ok (.iload_n 3, 1) := by decide +kernel
theorem dX0_sendRunners_46 : decode cX0_sendRunners 46 = .ok (.ifCond .lt 55, 3) := by decide +kernel
theorem dX0_sendRunners_49 : decode cX0_sendRunners 49 = .ok (.iload_n 3, 1) := by decide +kernel
theorem dX0_sendRunners_50 : decode cX0_sendRunners 50 = .ok (.aload_n 0, 1) := by decide +kernel
theorem dX0_sendRunners_51 : decode cX0_sendRunners 51 = .ok (.getfield 40, 3) := by decide +kernel
theorem dX0_sendRunners_54 : decode cX0_sendRunners 54 = .ok (.arraylength, 1) := by decide +kernel
theorem dX0_sendRunners_55 : decode cX0_sendRunners 55 = .ok (.if_icmp .ge 46, 3) := by decide +kernel
theorem dX0_sendRunners_58 : decode cX0_sendRunners 58 = .ok (.aload_n 0, 1) := by decide +kernel
theorem dX0_sendRunners_59 : decode cX0_sendRunners 59 = .ok (.getfield 44, 3) := by decide +kernel
theorem dX0_sendRunners_62 : decode cX0_sendRunners 62 = .ok (.iload_n 1, 1) := by decide +kernel
theorem dX0_sendRunners_63 : decode cX0_sendRunners 63 = .ok (.iload_n 3, 1) := by decide +kernel
theorem dX0_sendRunners_64 : decode cX0_sendRunners 64 = .ok (.iastore, 1) := by decide +kernel
theorem dX0_sendRunners_65 : decode cX0_sendRunners 65 = .ok (.aload_n 0, 1) := by decide +kernel
theorem dX0_sendRunners_66 : decode cX0_sendRunners 66 = .ok (.getfield 47, 3) := by decide +kernel
theorem dX0_sendRunners_69 : decode cX0_sendRunners 69 = .ok (.iload_n 1, 1) := by decide +kernel
theorem dX0_sendRunners_70 : decode cX0_sendRunners 70 = .ok (.aload_n 0, 1) := by decide +kernel
theorem dX0_sendRunners_71 : decode cX0_sendRunners 71 = .ok (.getfield 53, 3) := by decide +kernel
theorem dX0_sendRunners_74 : decode cX0_sendRunners 74 = .ok (.aload_n 0, 1) := by decide +kernel
theorem dX0_sendRunners_75 : decode cX0_sendRunners 75 = .ok (.getfield 37, 3) := by decide +kernel
theorem dX0_sendRunners_78 : decode cX0_sendRunners 78 = .ok (.iadd, 1) := by decide +kernel
theorem dX0_sendRunners_79 : decode cX0_sendRunners 79 = .ok (.aload_n 0, 1) := by decide +kernel
theorem dX0_sendRunners_80 : decode cX0_sendRunners 80 = .ok (.getfield 40, 3) := by decide +kernel
theorem dX0_sendRunners_83 : decode cX0_sendRunners 83 = .ok (.iload_n 3, 1) := by decide +kernel
theorem dX0_sendRunners_84 : decode cX0_sendRunners 84 = .ok (.iaload, 1) := by decide +kernel
theorem dX0_sendRunners_85 : decode cX0_sendRunners 85 = .ok (.isub, 1) := by decide +kernel
theorem dX0_sendRunners_86 : decode cX0_sendRunners 86 = .ok (.bipush 12, 2) := by decide +kernel
theorem dX0_sendRunners_88 : decode cX0_sendRunners 88 = .ok (.idiv, 1) := by decide +kernel
theorem dX0_sendRunners_89 : decode cX0_sendRunners 89 = .ok (.iconst 2, 1) := by decide +kernel
theorem dX0_sendRunners_90 : decode cX0_sendRunners 90 = .ok (.iadd, 1) := by decide +kernel
theorem dX0_sendRunners_91 : decode cX0_sendRunners 91 = .ok (.iastore, 1) := by decide +kernel
theorem dX0_sendRunners_92 : decode cX0_sendRunners 92 = .ok (.aload_n 0, 1) := by decide +kernel
theorem dX0_sendRunners_93 : decode cX0_sendRunners 93 = .ok (.getfield 40, 3) := by decide +kernel
theorem dX0_sendRunners_96 : decode cX0_sendRunners 96 = .ok (.iload_n 3, 1) := by decide +kernel
theorem dX0_sendRunners_97 : decode cX0_sendRunners 97 = .ok (.sipush (-9999), 3) := by decide +kernel
theorem dX0_sendRunners_100 : decode cX0_sendRunners 100 = .ok (.iastore, 1) := by decide +kernel
theorem dX0_sendRunners_101 : decode cX0_sendRunners 101 = .ok (.goto 57, 3) := by decide +kernel
theorem dX0_sendRunners_104 : decode cX0_sendRunners 104 = .ok (.aload_n 0, 1) := by decide +kernel
theorem dX0_sendRunners_105 : decode cX0_sendRunners 105 = .ok (.getfield 47, 3) := by decide +kernel
theorem dX0_sendRunners_108 : decode cX0_sendRunners 108 = .ok (.iload_n 1, 1) := by decide +kernel
theorem dX0_sendRunners_109 : decode cX0_sendRunners 109 = .ok (.dup2, 1) := by decide +kernel
theorem dX0_sendRunners_110 : decode cX0_sendRunners 110 = .ok (.iaload, 1) := by decide +kernel
theorem dX0_sendRunners_111 : decode cX0_sendRunners 111 = .ok (.iconst 1, 1) := by decide +kernel
theorem dX0_sendRunners_112 : decode cX0_sendRunners 112 = .ok (.isub, 1) := by decide +kernel
theorem dX0_sendRunners_113 : decode cX0_sendRunners 113 = .ok (.iastore, 1) := by decide +kernel
theorem dX0_sendRunners_114 : decode cX0_sendRunners 114 = .ok (.aload_n 0, 1) := by decide +kernel
theorem dX0_sendRunners_115 : decode cX0_sendRunners 115 = .ok (.getfield 47, 3) := by decide +kernel
theorem dX0_sendRunners_118 : decode cX0_sendRunners 118 = .ok (.iload_n 1, 1) := by decide +kernel
theorem dX0_sendRunners_119 : decode cX0_sendRunners 119 = .ok (.iaload, 1) := by decide +kernel
theorem dX0_sendRunners_120 : decode cX0_sendRunners 120 = .ok (.ifCond .gt 38, 3) := by decide +kernel
theorem dX0_sendRunners_123 : decode cX0_sendRunners 123 = .ok (.iload_n 2, 1) := by decide +kernel
theorem dX0_sendRunners_124 : decode cX0_sendRunners 124 = .ok (.ifCond .lt 34, 3) := by decide +kernel
theorem dX0_sendRunners_127 : decode cX0_sendRunners 127 = .ok (.iload_n 2, 1) := by decide +kernel
theorem dX0_sendRunners_128 : decode cX0_sendRunners 128 = .ok (.aload_n 0, 1) := by decide +kernel
theorem dX0_sendRunners_129 : decode cX0_sendRunners 129 = .ok (.getfield 40, 3) := by decide +kernel
theorem dX0_sendRunners_132 : decode cX0_sendRunners 132 = .ok (.arraylength, 1) := by decide +kernel
theorem dX0_sendRunners_133 : decode cX0_sendRunners 133 = .ok (.if_icmp .ge 25, 3) := by decide +kernel
theorem dX0_sendRunners_136 : decode cX0_sendRunners 136 = .ok (.aload_n 0, 1) := by decide +kernel
theorem dX0_sendRunners_137 : decode cX0_sendRunners 137 = .ok (.getfield 40, 3) := by decide +kernel
theorem dX0_sendRunners_140 : decode cX0_sendRunners 140 = .ok (.iload_n 2, 1) := by decide +kernel
theorem dX0_sendRunners_141 : decode cX0_sendRunners 141 = .ok (.aload_n 0, 1) := by decide +kernel
theorem dX0_sendRunners_142 : decode cX0_sendRunners 142 = .ok (.getfield 53, 3) := by decide +kernel
theorem dX0_sendRunners_145 : decode cX0_sendRunners 145 = .ok (.aload_n 0, 1) := by decide +kernel
theorem dX0_sendRunners_146 : decode cX0_sendRunners 146 = .ok (.getfield 37, 3) := by decide +kernel
theorem dX0_sendRunners_149 : decode cX0_sendRunners 149 = .ok (.iadd, 1) := by decide +kernel
theorem dX0_sendRunners_150 : decode cX0_sendRunners 150 = .ok (.iastore, 1) := by decide +kernel
theorem dX0_sendRunners_151 : decode cX0_sendRunners 151 = .ok (.aload_n 0, 1) := by decide +kernel
theorem dX0_sendRunners_152 : decode cX0_sendRunners 152 = .ok (.getfield 44, 3) := by decide +kernel
theorem dX0_sendRunners_155 : decode cX0_sendRunners 155 = .ok (.iload_n 1, 1) := by decide +kernel
theorem dX0_sendRunners_156 : decode cX0_sendRunners 156 = .ok (.iconst (-1), 1) := by decide +kernel
theorem dX0_sendRunners_157 : decode cX0_sendRunners 157 = .ok (.iastore, 1) := by decide +kernel
theorem dX0_sendRunners_158 : decode cX0_sendRunners 158 = .ok (.iinc 1 1, 3) := by decide +kernel
theorem dX0_sendRunners_161 : decode cX0_sendRunners 161 = .ok (.goto (-159), 3) := by decide +kernel
theorem dX0_sendRunners_164 : decode cX0_sendRunners 164 = .ok (.return_, 1) := by decide +kernel
theorem dX0_lastBehind_0 : decode cX0_lastBehind 0 = .ok (.iconst (-1), 1) := by decide +kernel
theorem dX0_lastBehind_1 : decode cX0_lastBehind 1 = .ok (.istore_n 1, 1) := by decide +kernel
theorem dX0_lastBehind_2 : decode cX0_lastBehind 2 = .ok (.aload_n 0, 1) := by decide +kernel
theorem dX0_lastBehind_3 : decode cX0_lastBehind 3 = .ok (.getfield 53, 3) := by decide +kernel
theorem dX0_lastBehind_6 : decode cX0_lastBehind 6 = .ok (.aload_n 0, 1) := by decide +kernel
theorem dX0_lastBehind_7 : decode cX0_lastBehind 7 = .ok (.getfield 13, 3) := by decide +kernel
theorem dX0_lastBehind_10 : decode cX0_lastBehind 10 = .ok (.isub, 1) := by decide +kernel
theorem dX0_lastBehind_11 : decode cX0_lastBehind 11 = .ok (.istore_n 2, 1) := by decide +kernel
theorem dX0_lastBehind_12 : decode cX0_lastBehind 12 = .ok (.iconst 0, 1) := by decide +kernel
theorem dX0_lastBehind_13 : decode cX0_lastBehind 13 = .ok (.istore_n 3, 1) := by decide +kernel
theorem dX0_lastBehind_14 : decode cX0_lastBehind 14 = .ok (.iload_n 3, 1) := by decide +kernel
theorem dX0_lastBehind_15 : decode cX0_lastBehind 15 = .ok (.aload_n 0, 1) := by decide +kernel
theorem dX0_lastBehind_16 : decode cX0_lastBehind 16 = .ok (.getfield 19, 3) := by decide +kernel
theorem dX0_lastBehind_19 : decode cX0_lastBehind 19 = .ok (.if_icmp .ge 51, 3) := by decide +kernel
theorem dX0_lastBehind_22 : decode cX0_lastBehind 22 = .ok (.iload_n 3, 1) := by decide +kernel
theorem dX0_lastBehind_23 : decode cX0_lastBehind 23 = .ok (.aload_n 0, 1) := by decide +kernel
theorem dX0_lastBehind_24 : decode cX0_lastBehind 24 = .ok (.getfield 40, 3) := by decide +kernel
theorem dX0_lastBehind_27 : decode cX0_lastBehind 27 = .ok (.arraylength, 1) := by decide +kernel
theorem dX0_lastBehind_28 : decode cX0_lastBehind 28 = .ok (.if_icmp .ge 42, 3) := by decide +kernel
theorem dX0_lastBehind_31 : decode cX0_lastBehind 31 = .ok (.aload_n 0, 1) := by decide +kernel
theorem dX0_lastBehind_32 : decode cX0_lastBehind 32 = .ok (.aload_n 0, 1) := by decide +kernel
theorem dX0_lastBehind_33 : decode cX0_lastBehind 33 = .ok (.getfield 40, 3) := by decide +kernel
theorem dX0_lastBehind_36 : decode cX0_lastBehind 36 = .ok (.iload_n 3, 1) := by decide +kernel
theorem dX0_lastBehind_37 : decode cX0_lastBehind 37 = .ok (.iaload, 1) := by decide +kernel
theorem dX0_lastBehind_38 : decode cX0_lastBehind 38 = .ok (.invokevirtual 126, 3) := by decide +kernel
theorem dX0_lastBehind_41 : decode cX0_lastBehind 41 = .ok (.iconst 1, 1) := by decide +kernel
theorem dX0_lastBehind_42 : decode cX0_lastBehind 42 = .ok (.if_icmp .ne 22, 3) := by decide +kernel
theorem dX0_lastBehind_45 : decode cX0_lastBehind 45 = .ok (.aload_n 0, 1) := by decide +kernel
theorem dX0_lastBehind_46 : decode cX0_lastBehind 46 = .ok (.getfield 40, 3) := by decide +kernel
theorem dX0_lastBehind_49 : decode cX0_lastBehind 49 = .ok (.iload_n 3, 1) := by decide +kernel
theorem dX0_lastBehind_50 : decode cX0_lastBehind 50 = .ok (.iaload, 1) := by decide +kernel
theorem dX0_lastBehind_51 : decode cX0_lastBehind 51 = .ok (.iload_n 2, 1) := by decide +kernel
theorem dX0_lastBehind_52 : decode cX0_lastBehind 52 = .ok (.if_icmp .ge 12, 3) := by decide +kernel
theorem dX0_lastBehind_55 : decode cX0_lastBehind 55 = .ok (.iload_n 3, 1) := by decide +kernel
theorem dX0_lastBehind_56 : decode cX0_lastBehind 56 = .ok (.istore_n 1, 1) := by decide +kernel
theorem dX0_lastBehind_57 : decode cX0_lastBehind 57 = .ok (.aload_n 0, 1) := by decide +kernel
theorem dX0_lastBehind_58 : decode cX0_lastBehind 58 = .ok (.getfield 40, 3) := by decide +kernel
theorem dX0_lastBehind_61 : decode cX0_lastBehind 61 = .ok (.iload_n 3, 1) := by decide +kernel
theorem dX0_lastBehind_62 : decode cX0_lastBehind 62 = .ok (.iaload, 1) := by decide +kernel
theorem dX0_lastBehind_63 : decode cX0_lastBehind 63 = .ok (.istore_n 2, 1) := by decide +kernel
theorem dX0_lastBehind_64 : decode cX0_lastBehind 64 = .ok (.iinc 3 1, 3) := by decide +kernel
theorem dX0_lastBehind_67 : decode cX0_lastBehind 67 = .ok (.goto (-53), 3) := by decide +kernel
theorem dX0_lastBehind_70 : decode cX0_lastBehind 70 = .ok (.iload_n 1, 1) := by decide +kernel
theorem dX0_lastBehind_71 : decode cX0_lastBehind 71 = .ok (.ireturn, 1) := by decide +kernel
theorem dX0_breathe_0 : decode cX0_breathe 0 = .ok (.aload_n 0, 1) := by decide +kernel
theorem dX0_breathe_1 : decode cX0_breathe 1 = .ok (.getfield 56, 3) := by decide +kernel
theorem dX0_breathe_4 : decode cX0_breathe 4 = .ok (.iload_n 1, 1) := by decide +kernel
theorem dX0_breathe_5 : decode cX0_breathe 5 = .ok (.iload_n 1, 1) := by decide +kernel
theorem dX0_breathe_6 : decode cX0_breathe 6 = .ok (.imul, 1) := by decide +kernel
theorem dX0_breathe_7 : decode cX0_breathe 7 = .ok (.iconst 2, 1) := by decide +kernel
theorem dX0_breathe_8 : decode cX0_breathe 8 = .ok (.idiv, 1) := by decide +kernel
theorem dX0_breathe_9 : decode cX0_breathe 9 = .ok (.isub, 1) := by decide +kernel
theorem dX0_breathe_10 : decode cX0_breathe 10 = .ok (.bipush 18, 2) := by decide +kernel
theorem dX0_breathe_12 : decode cX0_breathe 12 = .ok (.iadd, 1) := by decide +kernel
theorem dX0_breathe_13 : decode cX0_breathe 13 = .ok (.istore_n 2, 1) := by decide +kernel
theorem dX0_breathe_14 : decode cX0_breathe 14 = .ok (.aload_n 0, 1) := by decide +kernel
theorem dX0_breathe_15 : decode cX0_breathe 15 = .ok (.sipush 1000, 3) := by decide +kernel
theorem dX0_breathe_18 : decode cX0_breathe 18 = .ok (.iconst 0, 1) := by decide +kernel
theorem dX0_breathe_19 : decode cX0_breathe 19 = .ok (.iload_n 2, 1) := by decide +kernel
theorem dX0_breathe_20 : decode cX0_breathe 20 = .ok (.invokestatic 110, 3) := by decide +kernel
theorem dX0_breathe_23 : decode cX0_breathe 23 = .ok (.invokestatic 123, 3) := by decide +kernel
theorem dX0_breathe_26 : decode cX0_breathe 26 = .ok (.putfield 56, 3) := by decide +kernel
theorem dX0_breathe_29 : decode cX0_breathe 29 = .ok (.return_, 1) := by decide +kernel
theorem dX0_isAtEnd_0 : decode cX0_isAtEnd 0 = .ok (.aload_n 0, 1) := by decide +kernel
theorem dX0_isAtEnd_1 : decode cX0_isAtEnd 1 = .ok (.getfield 71, 3) := by decide +kernel
theorem dX0_isAtEnd_4 : decode cX0_isAtEnd 4 = .ok (.iconst (-1), 1) := by decide +kernel
theorem dX0_isAtEnd_5 : decode cX0_isAtEnd 5 = .ok (.if_icmp .eq 7, 3) := by decide +kernel
theorem dX0_isAtEnd_8 : decode cX0_isAtEnd 8 = .ok (.iconst 1, 1) := by decide +kernel
theorem dX0_isAtEnd_9 : decode cX0_isAtEnd 9 = .ok (.goto 4, 3) := by decide +kernel
theorem dX0_isAtEnd_12 : decode cX0_isAtEnd 12 = .ok (.iconst 0, 1) := by decide +kernel
theorem dX0_isAtEnd_13 : decode cX0_isAtEnd 13 = .ok (.ireturn, 1) := by decide +kernel
theorem dX0_isAheadOf_0 : decode cX0_isAheadOf 0 = .ok (.aload_n 0, 1) := by decide +kernel
theorem dX0_isAheadOf_1 : decode cX0_isAheadOf 1 = .ok (.invokevirtual 78, 3) := by decide +kernel
theorem dX0_isAheadOf_4 : decode cX0_isAheadOf 4 = .ok (.aload_n 1, 1) := by decide +kernel
theorem dX0_isAheadOf_5 : decode cX0_isAheadOf 5 = .ok (.invokevirtual 78, 3) := by decide +kernel
theorem dX0_isAheadOf_8 : decode cX0_isAheadOf 8 = .ok (.if_icmp .eq 8, 3) := by decide +kernel
theorem dX0_isAheadOf_11 : decode cX0_isAheadOf 11 = .ok (.aload_n 0, 1) := by decide +kernel
theorem dX0_isAheadOf_12 : decode cX0_isAheadOf 12 = .ok (.invokevirtual 78, 3) := by decide +kernel
theorem dX0_isAheadOf_15 : decode cX0_isAheadOf 15 = .ok (.ireturn, 1) := by decide +kernel
theorem dX0_isAheadOf_16 : decode cX0_isAheadOf 16 = .ok (.aload_n 0, 1) := by decide +kernel
theorem dX0_isAheadOf_17 : decode cX0_isAheadOf 17 = .ok (.invokevirtual 78, 3) := by decide +kernel
theorem dX0_isAheadOf_20 : decode cX0_isAheadOf 20 = .ok (.ifCond .eq 31, 3) := by decide +kernel
theorem dX0_isAheadOf_23 : decode cX0_isAheadOf 23 = .ok (.aload_n 0, 1) := by decide +kernel
theorem dX0_isAheadOf_24 : decode cX0_isAheadOf 24 = .ok (.getfield 71, 3) := by decide +kernel
theorem dX0_isAheadOf_27 : decode cX0_isAheadOf 27 = .ok (.aload_n 1, 1) := by decide +kernel
theorem dX0_isAheadOf_28 : decode cX0_isAheadOf 28 = .ok (.getfield 71, 3) := by decide +kernel
theorem dX0_isAheadOf_31 : decode cX0_isAheadOf 31 = .ok (.if_icmp .eq 20, 3) := by decide +kernel
theorem dX0_isAheadOf_34 : decode cX0_isAheadOf 34 = .ok (.aload_n 0, 1) := by decide +kernel
theorem dX0_isAheadOf_35 : decode cX0_isAheadOf 35 = .ok (.getfield 71, 3) := by decide +kernel
theorem dX0_isAheadOf_38 : decode cX0_isAheadOf 38 = .ok (.aload_n 1, 1) := by decide +kernel
theorem dX0_isAheadOf_39 : decode cX0_isAheadOf 39 = .ok (.getfield 71, 3) := by decide +kernel
theorem dX0_isAheadOf_42 : decode cX0_isAheadOf 42 = .ok (.if_icmp .ge 7, 3) := by decide +kernel
theorem dX0_isAheadOf_45 : decode cX0_isAheadOf 45 = .ok (.iconst 1, 1) := by decide +kernel
theorem dX0_isAheadOf_46 : decode cX0_isAheadOf 46 = .ok (.goto 4, 3) := by decide +kernel
theorem dX0_isAheadOf_49 : decode cX0_isAheadOf 49 = .ok (.iconst 0, 1) := by decide +kernel
theorem dX0_isAheadOf_50 : decode cX0_isAheadOf 50 = .ok (.ireturn, 1) := by decide +kernel
theorem dX0_isAheadOf_51 : decode cX0_isAheadOf 51 = .ok (.aload_n 0, 1) := by decide +kernel
theorem dX0_isAheadOf_52 : decode cX0_isAheadOf 52 = .ok (.invokevirtual 78, 3) := by decide +kernel
theorem dX0_isAheadOf_55 : decode cX0_isAheadOf 55 = .ok (.ifCond .ne 31, 3) := by decide +kernel
theorem dX0_isAheadOf_58 : decode cX0_isAheadOf 58 = .ok (.aload_n 0, 1) := by decide +kernel
theorem dX0_isAheadOf_59 : decode cX0_isAheadOf 59 = .ok (.getfield 53, 3) := by decide +kernel
theorem dX0_isAheadOf_62 : decode cX0_isAheadOf 62 = .ok (.aload_n 1, 1) := by decide +kernel
theorem dX0_isAheadOf_63 : decode cX0_isAheadOf 63 = .ok (.getfield 53, 3) := by decide +kernel
theorem dX0_isAheadOf_66 : decode cX0_isAheadOf 66 = .ok (.if_icmp .eq 20, 3) := by decide +kernel
theorem dX0_isAheadOf_69 : decode cX0_isAheadOf 69 = .ok (.aload_n 0, 1) := by decide +kernel
theorem dX0_isAheadOf_70 : decode cX0_isAheadOf 70 = .ok (.getfield 53, 3) := by decide +kernel
theorem dX0_isAheadOf_73 : decode cX0_isAheadOf 73 = .ok (.aload_n 1, 1) := by decide +kernel
theorem dX0_isAheadOf_74 : decode cX0_isAheadOf 74 = .ok (.getfield 53, 3) := by decide +kernel
theorem dX0_isAheadOf_77 : decode cX0_isAheadOf 77 = .ok (.if_icmp .le 7, 3) := by decide +kernel
theorem dX0_isAheadOf_80 : decode cX0_isAheadOf 80 = .ok (.iconst 1, 1) := by decide +kernel
theorem dX0_isAheadOf_81 : decode cX0_isAheadOf 81 = .ok (.goto 4, 3) := by decide +kernel
theorem dX0_isAheadOf_84 : decode cX0_isAheadOf 84 = .ok (.iconst 0, 1) := by decide +kernel
theorem dX0_isAheadOf_85 : decode cX0_isAheadOf 85 = .ok (.ireturn, 1) := by decide +kernel
theorem dX0_isAheadOf_86 : decode cX0_isAheadOf 86 = .ok (.aload_n 0, 1) := by decide +kernel
theorem dX0_isAheadOf_87 : decode cX0_isAheadOf 87 = .ok (.getfield 7, 3) := by decide +kernel
theorem dX0_isAheadOf_90 : decode cX0_isAheadOf 90 = .ok (.aload_n 1, 1) := by decide +kernel
theorem dX0_isAheadOf_91 : decode cX0_isAheadOf 91 = .ok (.getfield 7, 3) := by decide +kernel
theorem dX0_isAheadOf_94 : decode cX0_isAheadOf 94 = .ok (.if_icmp .ge 7, 3) := by decide +kernel
theorem dX0_isAheadOf_97 : decode cX0_isAheadOf 97 = .ok (.iconst 1, 1) := by decide +kernel
theorem dX0_isAheadOf_98 : decode cX0_isAheadOf 98 = .ok (.goto 4, 3) := by decide +kernel
theorem dX0_isAheadOf_101 : decode cX0_isAheadOf 101 = .ok (.iconst 0, 1) := by decide +kernel
theorem dX0_isAheadOf_102 : decode cX0_isAheadOf 102 = .ok (.ireturn, 1) := by decide +kernel
theorem dX0_sideOf_0 : decode cX0_sideOf 0 = .ok (.iload_n 1, 1) := by decide +kernel
theorem dX0_sideOf_1 : decode cX0_sideOf 1 = .ok (.sipush (-9999), 3) := by decide +kernel
theorem dX0_sideOf_4 : decode cX0_sideOf 4 = .ok (.if_icmp .ne 5, 3) := by decide +kernel
theorem dX0_sideOf_7 : decode cX0_sideOf 7 = .ok (.iconst 3, 1) := by decide +kernel
theorem dX0_sideOf_8 : decode cX0_sideOf 8 = .ok (.ireturn, 1) := by decide +kernel
theorem dX0_sideOf_9 : decode cX0_sideOf 9 = .ok (.iload_n 1, 1) := by decide +kernel
theorem dX0_sideOf_10 : decode cX0_sideOf 10 = .ok (.aload_n 0, 1) := by decide +kernel
theorem dX0_sideOf_11 : decode cX0_sideOf 11 = .ok (.getfield 53, 3) := by decide +kernel
theorem dX0_sideOf_14 : decode cX0_sideOf 14 = .ok (.aload_n 0, 1) := by decide +kernel
theorem dX0_sideOf_15 : decode cX0_sideOf 15 = .ok (.getfield 13, 3) := by decide +kernel
theorem dX0_sideOf_18 : decode cX0_sideOf 18 = .ok (.isub, 1) := by decide +kernel
theorem dX0_sideOf_19 : decode cX0_sideOf 19 = .ok (.if_icmp .ge 5, 3) := by decide +kernel
theorem dX0_sideOf_22 : decode cX0_sideOf 22 = .ok (.iconst 1, 1) := by decide +kernel
theorem dX0_sideOf_23 : decode cX0_sideOf 23 = .ok (.ireturn, 1) := by decide +kernel
theorem dX0_sideOf_24 : decode cX0_sideOf 24 = .ok (.iload_n 1, 1) := by decide +kernel
theorem dX0_sideOf_25 : decode cX0_sideOf 25 = .ok (.aload_n 0, 1) := by decide +kernel
theorem dX0_sideOf_26 : decode cX0_sideOf 26 = .ok (.getfield 53, 3) := by decide +kernel
theorem dX0_sideOf_29 : decode cX0_sideOf 29 = .ok (.if_icmp .le 7, 3) := by decide +kernel
theorem dX0_sideOf_32 : decode cX0_sideOf 32 = .ok (.iconst 2, 1) := by decide +kernel
theorem dX0_sideOf_33 : decode cX0_sideOf 33 = .ok (.goto 4, 3) := by decide +kernel
theorem dX0_sideOf_36 : decode cX0_sideOf 36 = .ok (.iconst 0, 1) := by decide +kernel
theorem dX0_sideOf_37 : decode cX0_sideOf 37 = .ok (.ireturn, 1) := by decide +kernel
theorem dX0_rollersLying_0 : decode cX0_rollersLying 0 = .ok (.iconst 0, 1) := by decide +kernel
theorem dX0_rollersLying_1 : decode cX0_rollersLying 1 = .ok (.istore_n 2, 1) := by decide +kernel
theorem dX0_rollersLying_2 : decode cX0_rollersLying 2 = .ok (.iconst 0, 1) := by decide +kernel
theorem dX0_rollersLying_3 : decode cX0_rollersLying 3 = .ok (.istore_n 3, 1) := by decide +kernel
theorem dX0_rollersLying_4 : decode cX0_rollersLying 4 = .ok (.iload_n 3, 1) := by decide +kernel
theorem dX0_rollersLying_5 : decode cX0_rollersLying 5 = .ok (.aload_n 0, 1) := by decide +kernel
theorem dX0_rollersLying_6 : decode cX0_rollersLying 6 = .ok (.getfield 19, 3) := by decide +kernel
theorem dX0_rollersLying_9 : decode cX0_rollersLying 9 = .ok (.if_icmp .ge 35, 3) := by decide +kernel
theorem dX0_rollersLying_12 : decode cX0_rollersLying 12 = .ok (.iload_n 3, 1) := by decide +kernel
theorem dX0_rollersLying_13 : decode cX0_rollersLying 13 = .ok (.aload_n 0, 1) := by decide +kernel
theorem dX0_rollersLying_14 : decode cX0_rollersLying 14 = .ok (.getfield 40, 3) := by decide +kernel
theorem dX0_rollersLying_17 : decode cX0_rollersLying 17 = .ok (.arraylength, 1) := by decide +kernel
theorem dX0_rollersLying_18 : decode cX0_rollersLying 18 = .ok (.if_icmp .ge 26, 3) := by decide +kernel
theorem dX0_rollersLying_21 : decode cX0_rollersLying 21 = .ok (.aload_n 0, 1) := by decide +kernel
theorem dX0_rollersLying_22 : decode cX0_rollersLying 22 = .ok (.aload_n 0, 1) := by decide +kernel
theorem dX0_rollersLying_23 : decode cX0_rollersLying 23 = .ok (.getfield 40, 3) := by decide +kernel
theorem dX0_rollersLying_26 : decode cX0_rollersLying 26 = .ok (.iload_n 3, 1) := by decide +kernel
theorem dX0_rollersLying_27 : decode cX0_rollersLying 27 = .ok (.iaload, 1) := by decide +kernel
theorem dX0_rollersLying_28 : decode cX0_rollersLying 28 = .ok (.invokevirtual 126, 3) := by decide +kernel
theorem dX0_rollersLying_31 : decode cX0_rollersLying 31 = .ok (.iload_n 1, 1) := by decide +kernel
theorem dX0_rollersLying_32 : decode cX0_rollersLying 32 = .ok (.if_icmp .ne 6, 3) := by decide +kernel
theorem dX0_rollersLying_35 : decode cX0_rollersLying 35 = .ok (.iinc 2 1, 3) := by decide +kernel
theorem dX0_rollersLying_38 : decode cX0_rollersLying 38 = .ok (.iinc 3 1, 3) := by decide +kernel
theorem dX0_rollersLying_41 : decode cX0_rollersLying 41 = .ok (.goto (-37), 3) := by decide +kernel
theorem dX0_rollersLying_44 : decode cX0_rollersLying 44 = .ok (.iload_n 2, 1) := by decide +kernel
theorem dX0_rollersLying_45 : decode cX0_rollersLying 45 = .ok (.ireturn, 1) := by decide +kernel
theorem dX0_fact_0 : decode cX0_fact 0 = .ok (.iload_n 1, 1) := by decide +kernel
theorem dX0_fact_1 : decode cX0_fact 1 = .ok (.tableswitch 118 0 10 #[59, 64, 69, 74, 79, 85, 91, 97, 103, 108, 113], 59) := by decide +kernel
theorem dX0_fact_60 : decode cX0_fact 60 = .ok (.aload_n 0, 1) := by decide +kernel
theorem dX0_fact_61 : decode cX0_fact 61 = .ok (.getfield 53, 3) := by decide +kernel
theorem dX0_fact_64 : decode cX0_fact 64 = .ok (.ireturn, 1) := by decide +kernel
theorem dX0_fact_65 : decode cX0_fact 65 = .ok (.aload_n 0, 1) := by decide +kernel
theorem dX0_fact_66 : decode cX0_fact 66 = .ok (.getfield 56, 3) := by decide +kernel
theorem dX0_fact_69 : decode cX0_fact 69 = .ok (.ireturn, 1) := by decide +kernel
theorem dX0_fact_70 : decode cX0_fact 70 = .ok (.aload_n 0, 1) := by decide +kernel
theorem dX0_fact_71 : decode cX0_fact 71 = .ok (.getfield 59, 3) := by decide +kernel
theorem dX0_fact_74 : decode cX0_fact 74 = .ok (.ireturn, 1) := by decide +kernel
theorem dX0_fact_75 : decode cX0_fact 75 = .ok (.aload_n 0, 1) := by decide +kernel
theorem dX0_fact_76 : decode cX0_fact 76 = .ok (.getfield 62, 3) := by decide +kernel
theorem dX0_fact_79 : decode cX0_fact 79 = .ok (.ireturn, 1) := by decide +kernel
theorem dX0_fact_80 : decode cX0_fact 80 = .ok (.aload_n 0, 1) := by decide +kernel
theorem dX0_fact_81 : decode cX0_fact 81 = .ok (.iconst 0, 1) := by decide +kernel
theorem dX0_fact_82 : decode cX0_fact 82 = .ok (.invokevirtual 119, 3) := by decide +kernel
theorem dX0_fact_85 : decode cX0_fact 85 = .ok (.ireturn, 1) := by decide +kernel
theorem dX0_fact_86 : decode cX0_fact 86 = .ok (.aload_n 0, 1) := by decide +kernel
theorem dX0_fact_87 : decode cX0_fact 87 = .ok (.iconst 1, 1) := by decide +kernel
theorem dX0_fact_88 : decode cX0_fact 88 = .ok (.invokevirtual 119, 3) := by decide +kernel
theorem dX0_fact_91 : decode cX0_fact 91 = .ok (.ireturn, 1) := by decide +kernel
theorem dX0_fact_92 : decode cX0_fact 92 = .ok (.aload_n 0, 1) := by decide +kernel
theorem dX0_fact_93 : decode cX0_fact 93 = .ok (.iconst 2, 1) := by decide +kernel
theorem dX0_fact_94 : decode cX0_fact 94 = .ok (.invokevirtual 119, 3) := by decide +kernel
theorem dX0_fact_97 : decode cX0_fact 97 = .ok (.ireturn, 1) := by decide +kernel
theorem dX0_fact_98 : decode cX0_fact 98 = .ok (.aload_n 0, 1) := by decide +kernel
theorem dX0_fact_99 : decode cX0_fact 99 = .ok (.iconst 3, 1) := by decide +kernel
theorem dX0_fact_100 : decode cX0_fact 100 = .ok (.invokevirtual 119, 3) := by decide +kernel
theorem dX0_fact_103 : decode cX0_fact 103 = .ok (.ireturn, 1) := by decide +kernel
theorem dX0_fact_104 : decode cX0_fact 104 = .ok (.aload_n 0, 1) := by decide +kernel
theorem dX0_fact_105 : decode cX0_fact 105 = .ok (.getfield 71, 3) := by decide +kernel
theorem dX0_fact_108 : decode cX0_fact 108 = .ok (.ireturn, 1) := by decide +kernel
theorem dX0_fact_109 : decode cX0_fact 109 = .ok (.aload_n 0, 1) := by decide +kernel
theorem dX0_fact_110 : decode cX0_fact 110 = .ok (.getfield 34, 3) := by decide +kernel
theorem dX0_fact_113 : decode cX0_fact 113 = .ok (.ireturn, 1) := by decide +kernel
theorem dX0_fact_114 : decode cX0_fact 114 = .ok (.aload_n 0, 1) := by decide +kernel
theorem dX0_fact_115 : decode cX0_fact 115 = .ok (.getfield 37, 3) := by decide +kernel
theorem dX0_fact_118 : decode cX0_fact 118 = .ok (.ireturn, 1) := by decide +kernel
theorem dX0_fact_119 : decode cX0_fact 119 = .ok (.aload_n 0, 1) := by decide +kernel
theorem dX0_fact_120 : decode cX0_fact 120 = .ok (.getfield 68, 3) := by decide +kernel
theorem dX0_fact_123 : decode cX0_fact 123 = .ok (.ireturn, 1) := by decide +kernel
theorem dX0_addTo_0 : decode cX0_addTo 0 = .ok (.lload_n 1, 1) := by decide +kernel
theorem dX0_addTo_1 : decode cX0_addTo 1 = .ok (.lstore_n 3, 1) := by decide +kernel
theorem dX0_addTo_2 : decode cX0_addTo 2 = .ok (.iconst 0, 1) := by decide +kernel
theorem dX0_addTo_3 : decode cX0_addTo 3 = .ok (.istore 5, 2) := by decide +kernel
theorem dX0_addTo_5 : decode cX0_addTo 5 = .ok (.iload 5, 2) := by decide +kernel
theorem dX0_addTo_7 : decode cX0_addTo 7 = .ok (.bipush 12, 2) := by decide +kernel
theorem dX0_addTo_9 : decode cX0_addTo 9 = .ok (.if_icmp .ge 23, 3) := by decide +kernel
theorem dX0_addTo_12 : decode cX0_addTo 12 = .ok (.lload_n 3, 1) := by decide +kernel
theorem dX0_addTo_13 : decode cX0_addTo 13 = .ok (.ldc2_w 132, 3) := by decide +kernel
theorem dX0_addTo_16 : decode cX0_addTo 16 = .ok (.lmul, 1) := by decide +kernel
theorem dX0_addTo_17 : decode cX0_addTo 17 = .ok (.aload_n 0, 1) := by decide +kernel
theorem dX0_addTo_18 : decode cX0_addTo 18 = .ok (.iload 5, 2) := by decide +kernel
theorem dX0_addTo_20 : decode cX0_addTo 20 = .ok (.invokevirtual 134, 3) := by decide +kernel
theorem dX0_addTo_23 : decode cX0_addTo 23 = .ok (.i2l, 1) := by decide +kernel
theorem dX0_addTo_24 : decode cX0_addTo 24 = .ok (.ladd, 1) := by decide +kernel
theorem dX0_addTo_25 : decode cX0_addTo 25 = .ok (.lstore_n 3, 1) := by decide +kernel
theorem dX0_addTo_26 : decode cX0_addTo 26 = .ok (.iinc 5 1, 3) := by decide +kernel
theorem dX0_addTo_29 : decode cX0_addTo 29 = .ok (.goto (-24), 3) := by decide +kernel
theorem dX0_addTo_32 : decode cX0_addTo 32 = .ok (.iconst 0, 1) := by decide +kernel
theorem dX0_addTo_33 : decode cX0_addTo 33 = .ok (.istore 5, 2) := by decide +kernel
theorem dX0_addTo_35 : decode cX0_addTo 35 = .ok (.iload 5, 2) := by decide +kernel
theorem dX0_addTo_37 : decode cX0_addTo 37 = .ok (.aload_n 0, 1) := by decide +kernel
theorem dX0_addTo_38 : decode cX0_addTo 38 = .ok (.getfield 19, 3) := by decide +kernel
theorem dX0_addTo_41 : decode cX0_addTo 41 = .ok (.if_icmp .ge 34, 3) := by decide +kernel
theorem dX0_addTo_44 : decode cX0_addTo 44 = .ok (.iload 5, 2) := by decide +kernel
theorem dX0_addTo_46 : decode cX0_addTo 46 = .ok (.aload_n 0, 1) := by decide +kernel
theorem dX0_addTo_47 : decode cX0_addTo 47 = .ok (.getfield 40, 3) := by decide +kernel
theorem dX0_addTo_50 : decode cX0_addTo 50 = .ok (.arraylength, 1) := by decide +kernel
theorem dX0_addTo_51 : decode cX0_addTo 51 = .ok (.if_icmp .ge 24, 3) := by decide +kernel
theorem dX0_addTo_54 : decode cX0_addTo 54 = .ok (.lload_n 3, 1) := by decide +kernel
theorem dX0_addTo_55 : decode cX0_addTo 55 = .ok (.ldc2_w 132, 3) := by decide +kernel
theorem dX0_addTo_58 : decode cX0_addTo 58 = .ok (.lmul, 1) := by decide +kernel
theorem dX0_addTo_59 : decode cX0_addTo 59 = .ok (.aload_n 0, 1) := by decide +kernel
theorem dX0_addTo_60 : decode cX0_addTo 60 = .ok (.getfield 40, 3) := by decide +kernel
theorem dX0_addTo_63 : decode cX0_addTo 63 = .ok (.iload 5, 2) := by decide +kernel
theorem dX0_addTo_65 : decode cX0_addTo 65 = .ok (.iaload, 1) := by decide +kernel
theorem dX0_addTo_66 : decode cX0_addTo 66 = .ok (.i2l, 1) := by decide +kernel
theorem dX0_addTo_67 : decode cX0_addTo 67 = .ok (.ladd, 1) := by decide +kernel
theorem dX0_addTo_68 : decode cX0_addTo 68 = .ok (.lstore_n 3, 1) := by decide +kernel
theorem dX0_addTo_69 : decode cX0_addTo 69 = .ok (.iinc 5 1, 3) := by decide +kernel
theorem dX0_addTo_72 : decode cX0_addTo 72 = .ok (.goto (-37), 3) := by decide +kernel
theorem dX0_addTo_75 : decode cX0_addTo 75 = .ok (.lload_n 3, 1) := by decide +kernel
theorem dX0_addTo_76 : decode cX0_addTo 76 = .ok (.lreturn, 1) := by decide +kernel
theorem dX1_init_0 : decode cX1_init 0 = .ok (.aload_n 0, 1) := by decide +kernel
theorem dX1_init_1 : decode cX1_init 1 = .ok (.invokespecial 1, 3) := by decide +kernel
theorem dX1_init_4 : decode cX1_init 4 = .ok (.aload_n 0, 1) := by decide +kernel
theorem dX1_init_5 : decode cX1_init 5 = .ok (.bipush 12, 2) := by decide +kernel
theorem dX1_init_7 : decode cX1_init 7 = .ok (.newarray .int, 2) := by decide +kernel
theorem dX1_init_9 : decode cX1_init 9 = .ok (.putfield 9, 3) := by decide +kernel
theorem dX1_init_12 : decode cX1_init 12 = .ok (.aload_n 0, 1) := by decide +kernel
theorem dX1_init_13 : decode cX1_init 13 = .ok (.bipush 12, 2) := by decide +kernel
theorem dX1_init_15 : decode cX1_init 15 = .ok (.newarray .int, 2) := by decide +kernel
theorem dX1_init_17 : decode cX1_init 17 = .ok (.putfield 13, 3) := by decide +kernel
theorem dX1_init_20 : decode cX1_init 20 = .ok (.aload_n 0, 1) := by decide +kernel
theorem dX1_init_21 : decode cX1_init 21 = .ok (.bipush 12, 2) := by decide +kernel
theorem dX1_init_23 : decode cX1_init 23 = .ok (.newarray .int, 2) := by decide +kernel
theorem dX1_init_25 : decode cX1_init 25 = .ok (.putfield 16, 3) := by decide +kernel
theorem dX1_init_28 : decode cX1_init 28 = .ok (.aload_n 0, 1) := by decide +kernel
theorem dX1_init_29 : decode cX1_init 29 = .ok (.getfield 16, 3) := by decide +kernel
theorem dX1_init_32 : decode cX1_init 32 = .ok (.iconst 0, 1) := by decide +kernel
theorem dX1_init_33 : decode cX1_init 33 = .ok (.iconst 2, 1) := by decide +kernel
theorem dX1_init_34 : decode cX1_init 34 = .ok (.iastore, 1) := by decide +kernel
theorem dX1_init_35 : decode cX1_init 35 = .ok (.aload_n 0, 1) := by decide +kernel
theorem dX1_init_36 : decode cX1_init 36 = .ok (.iconst 1, 1) := by decide +kernel
theorem dX1_init_37 : decode cX1_init 37 = .ok (.putfield 19, 3) := by decide +kernel
theorem dX1_init_40 : decode cX1_init 40 = .ok (.aload_n 0, 1) := by decide +kernel
theorem dX1_init_41 : decode cX1_init 41 = .ok (.sipush 500, 3) := by decide +kernel
theorem dX1_init_44 : decode cX1_init 44 = .ok (.putfield 23, 3) := by decide +kernel
theorem dX1_init_47 : decode cX1_init 47 = .ok (.return_, 1) := by decide +kernel
theorem dX1_putStretch_0 : decode cX1_putStretch 0 = .ok (.iconst 0, 1) := by decide +kernel
theorem dX1_putStretch_1 : decode cX1_putStretch 1 = .ok (.istore 4, 2) := by decide +kernel
theorem dX1_putStretch_3 : decode cX1_putStretch 3 = .ok (.iload 4, 2) := by decide +kernel
theorem dX1_putStretch_5 : decode cX1_putStretch 5 = .ok (.aload_n 0, 1) := by decide +kernel
theorem dX1_putStretch_6 : decode cX1_putStretch 6 = .ok (.getfield 19, 3) := by decide +kernel
theorem dX1_putStretch_9 : decode cX1_putStretch 9 = .ok (.if_icmp .ge 27, 3) := by decide +kernel
theorem dX1_putStretch_12 : decode cX1_putStretch 12 = .ok (.iload 4, 2) := by decide +kernel
theorem dX1_putStretch_14 : decode cX1_putStretch 14 = .ok (.bipush 12, 2) := by decide +kernel
theorem dX1_putStretch_16 : decode cX1_putStretch 16 = .ok (.if_icmp .ge 20, 3) := by decide +kernel
theorem dX1_putStretch_19 : decode cX1_putStretch 19 = .ok (.aload_n 0, 1) := by decide +kernel
theorem dX1_putStretch_20 : decode cX1_putStretch 20 = .ok (.getfield 9, 3) := by decide +kernel
theorem dX1_putStretch_23 : decode cX1_putStretch 23 = .ok (.iload 4, 2) := by decide +kernel
theorem dX1_putStretch_25 : decode cX1_putStretch 25 = .ok (.iaload, 1) := by decide +kernel
theorem dX1_putStretch_26 : decode cX1_putStretch 26 = .ok (.iload_n 1, 1) := by decide +kernel
theorem dX1_putStretch_27 : decode cX1_putStretch 27 = .ok (.if_icmp .eq 9, 3) := by decide +kernel
theorem dX1_putStretch_30 : decode cX1_putStretch 30 = .ok (.iinc 4 1, 3) := by decide +kernel
theorem dX1_putStretch_33 : decode cX1_putStretch 33 = .ok (.goto (-30), 3) := by decide +kernel
theorem dX1_putStretch_36 : decode cX1_putStretch 36 = .ok (.iload 4, 2) := by decide +kernel
theorem dX1_putStretch_38 : decode cX1_putStretch 38 = .ok (.bipush 12, 2) := by decide +kernel
theorem dX1_putStretch_40 : decode cX1_putStretch 40 = .ok (.if_icmp .lt 5, 3) := by decide +kernel
theorem dX1_putStretch_43 : decode cX1_putStretch 43 = .ok (.iconst 0, 1) := by decide +kernel
theorem dX1_putStretch_44 : decode cX1_putStretch 44 = .ok (.ireturn, 1) := by decide +kernel
theorem dX1_putStretch_45 : decode cX1_putStretch 45 = .ok (.aload_n 0, 1) := by decide +kernel
theorem dX1_putStretch_46 : decode cX1_putStretch 46 = .ok (.getfield 9, 3) := by decide +kernel
theorem dX1_putStretch_49 : decode cX1_putStretch 49 = .ok (.iload 4, 2) := by decide +kernel
theorem dX1_putStretch_51 : decode cX1_putStretch 51 = .ok (.iload_n 1, 1) := by decide +kernel
theorem dX1_putStretch_52 : decode cX1_putStretch 52 = .ok (.iastore, 1) := by decide +kernel
theorem dX1_putStretch_53 : decode cX1_putStretch 53 = .ok (.aload_n 0, 1) := by decide +kernel
theorem dX1_putStretch_54 : decode cX1_putStretch 54 = .ok (.getfield 13, 3) := by decide +kernel
theorem dX1_putStretch_57 : decode cX1_putStretch 57 = .ok (.iload 4, 2) := by decide +kernel
theorem dX1_putStretch_59 : decode cX1_putStretch 59 = .ok (.iload_n 2, 1) := by decide +kernel
theorem dX1_putStretch_60 : decode cX1_putStretch 60 = .ok (.iastore, 1) := by decide +kernel
theorem dX1_putStretch_61 : decode cX1_putStretch 61 = .ok (.aload_n 0, 1) := by decide +kernel
theorem dX1_putStretch_62 : decode cX1_putStretch 62 = .ok (.getfield 16, 3) := by decide +kernel
theorem dX1_putStretch_65 : decode cX1_putStretch 65 = .ok (.iload 4, 2) := by decide +kernel
theorem dX1_putStretch_67 : decode cX1_putStretch 67 = .ok (.iload_n 3, 1) := by decide +kernel
theorem dX1_putStretch_68 : decode cX1_putStretch 68 = .ok (.iastore, 1) := by decide +kernel
theorem dX1_putStretch_69 : decode cX1_putStretch 69 = .ok (.iload 4, 2) := by decide +kernel
theorem dX1_putStretch_71 : decode cX1_putStretch 71 = .ok (.aload_n 0, 1) := by decide +kernel
theorem dX1_putStretch_72 : decode cX1_putStretch 72 = .ok (.getfield 19, 3) := by decide +kernel
theorem dX1_putStretch_75 : decode cX1_putStretch 75 = .ok (.if_icmp .ne 13, 3) := by decide +kernel
theorem dX1_putStretch_78 : decode cX1_putStretch 78 = .ok (.aload_n 0, 1) := by decide +kernel
theorem dX1_putStretch_79 : decode cX1_putStretch 79 = .ok (.dup, 1) := by decide +kernel
theorem dX1_putStretch_80 : decode cX1_putStretch 80 = .ok (.getfield 19, 3) := by decide +kernel
theorem dX1_putStretch_83 : decode cX1_putStretch 83 = .ok (.iconst 1, 1) := by decide +kernel
theorem dX1_putStretch_84 : decode cX1_putStretch 84 = .ok (.iadd, 1) := by decide +kernel
theorem dX1_putStretch_85 : decode cX1_putStretch 85 = .ok (.putfield 19, 3) := by decide +kernel
theorem dX1_putStretch_88 : decode cX1_putStretch 88 = .ok (.iconst 1, 1) := by decide +kernel
theorem dX1_putStretch_89 : decode cX1_putStretch 89 = .ok (.ireturn, 1) := by decide +kernel
theorem dX1_groundAt_0 : decode cX1_groundAt 0 = .ok (.iload_n 2, 1) := by decide +kernel
theorem dX1_groundAt_1 : decode cX1_groundAt 1 = .ok (.ifCond .eq 10, 3) := by decide +kernel
theorem dX1_groundAt_4 : decode cX1_groundAt 4 = .ok (.aload_n 0, 1) := by decide +kernel
theorem dX1_groundAt_5 : decode cX1_groundAt 5 = .ok (.getfield 16, 3) := by decide +kernel
theorem dX1_groundAt_8 : decode cX1_groundAt 8 = .ok (.goto 7, 3) := by decide +kernel
theorem dX1_groundAt_11 : decode cX1_groundAt 11 = .ok (.aload_n 0, 1) := by decide +kernel
theorem dX1_groundAt_12 : decode cX1_groundAt 12 = .ok (.getfield 13, 3) := by decide +kernel
theorem dX1_groundAt_15 : decode cX1_groundAt 15 = .ok (.astore_n 3, 1) := by decide +kernel
theorem dX1_groundAt_16 : decode cX1_groundAt 16 = .ok (.iload_n 1, 1) := by decide +kernel
theorem dX1_groundAt_17 : decode cX1_groundAt 17 = .ok (.iconst 0, 1) := by decide +kernel
theorem dX1_groundAt_18 : decode cX1_groundAt 18 = .ok (.invokestatic 26, 3) := by decide +kernel
theorem dX1_groundAt_21 : decode cX1_groundAt 21 = .ok (.istore 4, 2) := by decide +kernel
theorem dX1_groundAt_23 : decode cX1_groundAt 23 = .ok (.iconst (-1), 1) := by decide +kernel
theorem dX1_groundAt_24 : decode cX1_groundAt 24 = .ok (.istore 5, 2) := by decide +kernel
theorem dX1_groundAt_26 : decode cX1_groundAt 26 = .ok (.iconst 0, 1) := by decide +kernel
theorem dX1_groundAt_27 : decode cX1_groundAt 27 = .ok (.istore 6, 2) := by decide +kernel
theorem dX1_groundAt_29 : decode cX1_groundAt 29 = .ok (.iconst 0, 1) := by decide +kernel
theorem dX1_groundAt_30 : decode cX1_groundAt 30 = .ok (.istore 7, 2) := by decide +kernel
theorem dX1_groundAt_32 : decode cX1_groundAt 32 = .ok (.iload 7, 2) := by decide +kernel
theorem dX1_groundAt_34 : decode cX1_groundAt 34 = .ok (.aload_n 0, 1) := by decide +kernel
theorem dX1_groundAt_35 : decode cX1_groundAt 35 = .ok (.getfield 19, 3) := by decide +kernel
theorem dX1_groundAt_38 : decode cX1_groundAt 38 = .ok (.if_icmp .ge 65, 3) := by decide +kernel
theorem dX1_groundAt_41 : decode cX1_groundAt 41 = .ok (.iload 7, 2) := by decide +kernel
theorem dX1_groundAt_43 : decode cX1_groundAt 43 = .ok (.aload_n 0, 1) := by decide +kernel
theorem dX1_groundAt_44 : decode cX1_groundAt 44 = .ok (.getfield 9, 3) := by decide +kernel
theorem dX1_groundAt_47 : decode cX1_groundAt 47 = .ok (.arraylength, 1) := by decide +kernel
theorem dX1_groundAt_48 : decode cX1_groundAt 48 = .ok (.if_icmp .ge 55, 3) := by decide +kernel
theorem dX1_groundAt_51 : decode cX1_groundAt 51 = .ok (.iload 7, 2) := by decide +kernel
theorem dX1_groundAt_53 : decode cX1_groundAt 53 = .ok (.aload_n 3, 1) := by decide +kernel
theorem dX1_groundAt_54 : decode cX1_groundAt 54 = .ok (.arraylength, 1) := by decide +kernel
theorem dX1_groundAt_55 : decode cX1_groundAt 55 = .ok (.if_icmp .ge 48, 3) := by decide +kernel
theorem dX1_groundAt_58 : decode cX1_groundAt 58 = .ok (.aload_n 0, 1) := by decide +kernel
theorem dX1_groundAt_59 : decode cX1_groundAt 59 = .ok (.getfield 9, 3) := by decide +kernel
theorem dX1_groundAt_62 : decode cX1_groundAt 62 = .ok (.iload 7, 2) := by decide +kernel
theorem dX1_groundAt_64 : decode cX1_groundAt 64 = .ok (.iaload, 1) := by decide +kernel
theorem dX1_groundAt_65 : decode cX1_groundAt 65 = .ok (.iload 4, 2) := by decide +kernel
theorem dX1_groundAt_67 : decode cX1_groundAt 67 = .ok (.if_icmp .gt 30, 3) := by decide +kernel
theorem dX1_groundAt_70 : decode cX1_groundAt 70 = .ok (.aload_n 0, 1) := by decide +kernel
theorem dX1_groundAt_71 : decode cX1_groundAt 71 = .ok (.getfield 9, 3) := by decide +kernel
theorem dX1_groundAt_74 : decode cX1_groundAt 74 = .ok (.iload 7, 2) := by decide +kernel
theorem dX1_groundAt_76 : decode cX1_groundAt 76 = .ok (.iaload, 1) := by decide +kernel
theorem dX1_groundAt_77 : decode cX1_groundAt 77 = .ok (.iload 5, 2) := by decide +kernel
theorem dX1_groundAt_79 : decode cX1_groundAt 79 = .ok (.if_icmp .le 18, 3) := by decide +kernel
theorem dX1_groundAt_82 : decode cX1_groundAt 82 = .ok (.aload_n 0, 1) := by decide +kernel
theorem dX1_groundAt_83 : decode cX1_groundAt 83 = .ok (.getfield 9, 3) := by decide +kernel
theorem dX1_groundAt_86 : decode cX1_groundAt 86 = .ok (.iload 7, 2) := by decide +kernel
theorem dX1_groundAt_88 : decode cX1_groundAt 88 = .ok (.iaload, 1) := by decide +kernel
theorem dX1_groundAt_89 : decode cX1_groundAt 89 = .ok (.istore 5, 2) := by decide +kernel
theorem dX1_groundAt_91 : decode cX1_groundAt 91 = .ok (.aload_n 3, 1) := by decide +kernel
theorem dX1_groundAt_92 : decode cX1_groundAt 92 = .ok (.iload 7, 2) := by decide +kernel
theorem dX1_groundAt_94 : decode cX1_groundAt 94 = .ok (.iaload, 1) := by decide +kernel
theorem dX1_groundAt_95 : decode cX1_groundAt 95 = .ok (.istore 6, 2) := by decide +kernel
theorem dX1_groundAt_97 : decode cX1_groundAt 97 = .ok (.iinc 7 1, 3) := by decide +kernel
theorem dX1_groundAt_100 : decode cX1_groundAt 100 = .ok (.goto (-68), 3) := by decide +kernel
theorem dX1_groundAt_103 : decode cX1_groundAt 103 = .ok (.iload 6, 2) := by decide +kernel
theorem dX1_groundAt_105 : decode cX1_groundAt 105 = .ok (.ireturn, 1) := by decide +kernel
theorem dJ9_max_7cf53_0 : decode cJ9_max_7cf53 0 = .ok (.iload_n 0, 1) := by decide +kernel
theorem dJ9_max_7cf53_1 : decode cJ9_max_7cf53 1 = .ok (.iload_n 1, 1) := by decide +kernel
theorem dJ9_max_7cf53_2 : decode cJ9_max_7cf53 2 = .ok (.if_icmp .lt 7, 3) := by decide +kernel
theorem dJ9_max_7cf53_5 : decode cJ9_max_7cf53 5 = .ok (.iload_n 0, 1) := by decide +kernel
theorem dJ9_max_7cf53_6 : decode cJ9_max_7cf53 6 = .ok (.goto 4, 3) := by decide +kernel
theorem dJ9_max_7cf53_9 : decode cJ9_max_7cf53 9 = .ok (.iload_n 1, 1) := by decide +kernel
theorem dJ9_max_7cf53_10 : decode cJ9_max_7cf53 10 = .ok (.ireturn, 1) := by decide +kernel
theorem dJ9_min_7cf53_0 : decode cJ9_min_7cf53 0 = .ok (.iload_n 0, 1) := by decide +kernel
theorem dJ9_min_7cf53_1 : decode cJ9_min_7cf53 1 = .ok (.iload_n 1, 1) := by decide +kernel
theorem dJ9_min_7cf53_2 : decode cJ9_min_7cf53 2 = .ok (.if_icmp .gt 7, 3) := by decide +kernel
theorem dJ9_min_7cf53_5 : decode cJ9_min_7cf53 5 = .ok (.iload_n 0, 1) := by decide +kernel
theorem dJ9_min_7cf53_6 : decode cJ9_min_7cf53 6 = .ok (.goto 4, 3) := by decide +kernel
theorem dJ9_min_7cf53_9 : decode cJ9_min_7cf53 9 = .ok (.iload_n 1, 1) := by decide +kernel
theorem dJ9_min_7cf53_10 : decode cJ9_min_7cf53 10 = .ok (.ireturn, 1) := by decide +kernel
end
section
set_option maxRecDepth 20000 in
theorem ggX0_init_X0_goToStart : GoodIn wsX0_init wsX0_goToStart := goodIn_r _ [22, 23, 24, 11, 25, 26, 27, 28, 29, 7, 15, 5, 16, 17, 30, 31, 32, 33, 34, 35, 36, 37, 38, 39, 40, 41, 42, 43, 44, 45, 46, 47, 48, 49] (by decide +kernel) (by decide +kernel)
set_option maxRecDepth 20000 in
theorem gX0_init_X0_goToStart : GoodIn wsX0_init (wsV RX0 50 RX0 yX0_goToStart wsX0_goToStart) := goodIn_app (goodIn_of _ (by decide +kernel)) ggX0_init_X0_goToStart
set_option maxRecDepth 20000 in
theorem ggX0_copyFrom_X0_copyRow : GoodIn wsX0_copyFrom wsX0_copyRow := goodIn_r _ [24] (by decide +kernel) (by decide +kernel)
set_option maxRecDepth 20000 in
theorem gX0_copyFrom_X0_copyRow : GoodIn wsX0_copyFrom (va_wsS RX0 74 yX0_copyRow wsX0_copyRow) := goodIn_app (goodIn_of _ (by decide +kernel)) ggX0_copyFrom_X0_copyRow
set_option maxRecDepth 20000 in
theorem ggX0_passTick_X0_isAtEnd : GoodIn wsX0_passTick wsX0_isAtEnd := goodIn_r _ [11, 6, 81, 82, 83, 84, 85, 86, 87, 88, 89, 90, 91, 92, 93, 94, 95, 96, 97, 98, 99, 100] (by decide +kernel) (by decide +kernel)
set_option maxRecDepth 20000 in
theorem gX0_passTick_X0_isAtEnd : GoodIn wsX0_passTick (wsV RX0 78 RX0 yX0_isAtEnd wsX0_isAtEnd) := goodIn_app (goodIn_of _ (by decide +kernel)) ggX0_passTick_X0_isAtEnd
set_option maxRecDepth 20000 in
theorem ggX0_passTick_X0_pull : GoodIn wsX0_passTick wsX0_pull := goodIn_r _ [15, 16, 17, 4, 18, 81, 82, 83, 84, 85, 86, 87, 88, 89, 90, 91, 92, 93, 94, 95, 96, 97, 98, 99, 100] (by decide +kernel) (by decide +kernel)
set_option maxRecDepth 20000 in
theorem gX0_passTick_X0_pull : GoodIn wsX0_passTick (wsV RX0 82 RX0 yX0_pull wsX0_pull) := goodIn_app (goodIn_of _ (by decide +kernel)) ggX0_passTick_X0_pull
set_option maxRecDepth 20000 in
theorem ggX0_passTick_X0_breakRope : GoodIn wsX0_passTick wsX0_breakRope := goodIn_r _ [22, 2, 23, 24, 25, 26, 1, 27, 81, 82, 83, 84, 85, 86, 87, 88, 89, 90, 91, 92, 93, 94, 95, 96, 97, 98, 99, 100] (by decide +kernel) (by decide +kernel)
set_option maxRecDepth 20000 in
theorem gX0_passTick_X0_breakRope : GoodIn wsX0_passTick (wsV RX0 86 RX0 yX0_breakRope wsX0_breakRope) := goodIn_app (goodIn_of _ (by decide +kernel)) ggX0_passTick_X0_breakRope
set_option maxRecDepth 20000 in
theorem ggX0_passTick_X0_breathe : GoodIn wsX0_passTick wsX0_breathe := goodIn_r _ [31, 18, 23, 24, 25, 26, 32, 33, 34, 81, 82, 83, 84, 85, 86, 87, 88, 89, 90, 91, 92, 93, 94, 95, 96, 97, 98, 99, 100] (by decide +kernel) (by decide +kernel)
set_option maxRecDepth 20000 in
theorem gX0_passTick_X0_breathe : GoodIn wsX0_passTick (wsV RX0 89 RX0 yX0_breathe wsX0_breathe) := goodIn_app (goodIn_of _ (by decide +kernel)) ggX0_passTick_X0_breathe
set_option maxRecDepth 20000 in
theorem ggX0_passTick_X0_drag : GoodIn wsX0_passTick wsX0_drag := goodIn_r _ [38, 5, 39, 23, 24, 25, 26, 32, 33, 34, 40, 41, 42, 43, 44, 45, 46, 47, 48, 49, 50, 51, 52, 10, 53, 54, 55, 56, 57, 58, 59, 60, 81, 82, 83, 84, 85, 86, 87, 88, 89, 90, 91, 92, 93, 94, 95, 96, 97, 98, 99, 100, 101, 102, 103, 104, 105] (by decide +kernel) (by decide +kernel)
set_option maxRecDepth 20000 in
theorem gX0_passTick_X0_drag : GoodIn wsX0_passTick (wsV RX0 93 RX0 yX0_drag wsX0_drag) := goodIn_app (goodIn_of _ (by decide +kernel)) ggX0_passTick_X0_drag
set_option maxRecDepth 20000 in
theorem ggX0_passTick_X0_wayWith : GoodIn wsX0_passTick wsX0_wayWith := goodIn_r _ [64, 39, 23, 24, 25, 26, 32, 33, 34, 81, 82, 83, 84, 85, 86, 87, 88, 89, 90, 91, 92, 93, 94, 95, 96, 97, 98, 99, 100] (by decide +kernel) (by decide +kernel)
set_option maxRecDepth 20000 in
theorem gX0_passTick_X0_wayWith : GoodIn wsX0_passTick (wsV RX0 97 RX0 yX0_wayWith wsX0_wayWith) := goodIn_app (goodIn_of _ (by decide +kernel)) ggX0_passTick_X0_wayWith
set_option maxRecDepth 20000 in
theorem ggX0_passTick_X0_moveOn : GoodIn wsX0_passTick wsX0_moveOn := goodIn_r _ [68, 54, 55, 3, 5, 56, 57, 58, 10, 59, 60, 81, 82, 83, 84, 85, 86, 87, 88, 89, 90, 91, 92, 93, 94, 95, 96, 97, 98, 99, 100] (by decide +kernel) (by decide +kernel)
set_option maxRecDepth 20000 in
theorem gX0_passTick_X0_moveOn : GoodIn wsX0_passTick (wsV RX0 101 RX0 yX0_moveOn wsX0_moveOn) := goodIn_app (goodIn_of _ (by decide +kernel)) ggX0_passTick_X0_moveOn
set_option maxRecDepth 20000 in
theorem ggX0_passTick_X0_sendRunners : GoodIn wsX0_passTick wsX0_sendRunners := goodIn_r _ [72, 73, 74, 75, 55, 5, 76, 77, 78, 79, 10, 80, 60, 54, 56, 57, 58, 59, 81, 82, 83, 84, 85, 86, 87, 88, 89, 90, 91, 92, 93, 94, 95, 96, 97, 98, 99, 100] (by decide +kernel) (by decide +kernel)
set_option maxRecDepth 20000 in
theorem gX0_passTick_X0_sendRunners : GoodIn wsX0_passTick (wsV RX0 104 RX0 yX0_sendRunners wsX0_sendRunners) := goodIn_app (goodIn_of _ (by decide +kernel)) ggX0_passTick_X0_sendRunners
set_option maxRecDepth 20000 in
theorem ggX0_drag_X1_groundAt : GoodIn wsX0_drag wsX1_groundAt := goodIn_r _ [14, 15, 16, 17, 4, 5, 6, 18, 19, 52, 53, 54, 55, 56] (by decide +kernel) (by decide +kernel)
set_option maxRecDepth 20000 in
theorem gX0_drag_X1_groundAt : GoodIn wsX0_drag (wsV RX0 115 RX1 yX1_groundAt wsX1_groundAt) := goodIn_app (goodIn_of _ (by decide +kernel)) ggX0_drag_X1_groundAt
set_option maxRecDepth 20000 in
theorem ggX0_drag_X0_rollersLying : GoodIn wsX0_drag wsX0_rollersLying := goodIn_r _ [24, 25, 26, 27, 28, 29, 23, 30, 1, 31, 32, 33, 34, 35, 36, 37, 38, 39, 40, 41, 42, 43, 44, 45, 46, 47, 48, 49, 50, 51] (by decide +kernel) (by decide +kernel)
set_option maxRecDepth 20000 in
theorem gX0_drag_X0_rollersLying : GoodIn wsX0_drag (wsV RX0 119 RX0 yX0_rollersLying wsX0_rollersLying) := goodIn_app (goodIn_of _ (by decide +kernel)) ggX0_drag_X0_rollersLying
set_option maxRecDepth 20000 in
theorem ggX0_moveOn_X0_sideOf : GoodIn wsX0_moveOn wsX0_sideOf := goodIn_r _ [9, 4, 10, 11, 12, 13, 14, 15, 16, 17, 18, 19, 20, 21, 22, 23, 24, 25, 26, 27, 28, 29, 30] (by decide +kernel) (by decide +kernel)
set_option maxRecDepth 20000 in
theorem gX0_moveOn_X0_sideOf : GoodIn wsX0_moveOn (wsV RX0 126 RX0 yX0_sideOf wsX0_sideOf) := goodIn_app (goodIn_of _ (by decide +kernel)) ggX0_moveOn_X0_sideOf
set_option maxRecDepth 20000 in
theorem ggX0_sendRunners_X0_lastBehind : GoodIn wsX0_sendRunners wsX0_lastBehind := goodIn_r _ [11, 5, 12, 13, 4, 14, 15, 16, 10, 17, 18, 19, 20, 21, 22, 23, 24, 25, 26, 27, 28, 29, 30, 31, 32, 33, 34, 35, 36, 37] (by decide +kernel) (by decide +kernel)
set_option maxRecDepth 20000 in
theorem gX0_sendRunners_X0_lastBehind : GoodIn wsX0_sendRunners (wsV RX0 129 RX0 yX0_lastBehind wsX0_lastBehind) := goodIn_app (goodIn_of _ (by decide +kernel)) ggX0_sendRunners_X0_lastBehind
set_option maxRecDepth 20000 in
theorem ggX0_lastBehind_X0_sideOf : GoodIn wsX0_lastBehind wsX0_sideOf := goodIn_r _ [9, 1, 2, 10, 11, 12, 13, 14, 15, 16, 17, 18, 19, 20, 21, 22, 23, 24, 25, 26, 27, 28, 29] (by decide +kernel) (by decide +kernel)
set_option maxRecDepth 20000 in
theorem gX0_lastBehind_X0_sideOf : GoodIn wsX0_lastBehind (wsV RX0 126 RX0 yX0_sideOf wsX0_sideOf) := goodIn_app (goodIn_of _ (by decide +kernel)) ggX0_lastBehind_X0_sideOf
set_option maxRecDepth 20000 in
theorem ggX0_isAheadOf_X0_isAtEnd : GoodIn wsX0_isAheadOf wsX0_isAtEnd := goodIn_r _ [8, 1, 9, 10, 11, 12, 13, 14, 15, 16, 17, 18, 19, 20, 21, 22, 23, 24, 25, 26, 27, 28] (by decide +kernel) (by decide +kernel)
set_option maxRecDepth 20000 in
theorem gX0_isAheadOf_X0_isAtEnd : GoodIn wsX0_isAheadOf (wsV RX0 78 RX0 yX0_isAtEnd wsX0_isAtEnd) := goodIn_app (goodIn_of _ (by decide +kernel)) ggX0_isAheadOf_X0_isAtEnd
set_option maxRecDepth 20000 in
theorem ggX0_rollersLying_X0_sideOf : GoodIn wsX0_rollersLying wsX0_sideOf := goodIn_r _ [7, 8, 9, 10, 11, 12, 13, 14, 15, 16, 17, 18, 19, 20, 21, 22, 23, 24, 25, 26, 27, 28, 29] (by decide +kernel) (by decide +kernel)
set_option maxRecDepth 20000 in
theorem gX0_rollersLying_X0_sideOf : GoodIn wsX0_rollersLying (wsV RX0 126 RX0 yX0_sideOf wsX0_sideOf) := goodIn_app (goodIn_of _ (by decide +kernel)) ggX0_rollersLying_X0_sideOf
set_option maxRecDepth 20000 in
theorem ggX0_fact_X0_rollersLying : GoodIn wsX0_fact wsX0_rollersLying := goodIn_r _ [13, 14, 15, 16, 17, 18, 12, 19, 1, 20, 21, 22, 23, 24, 25, 26, 27, 28, 29, 30, 31, 32, 33, 34, 35, 36, 37, 38, 39, 40] (by decide +kernel) (by decide +kernel)
set_option maxRecDepth 20000 in
theorem gX0_fact_X0_rollersLying : GoodIn wsX0_fact (wsV RX0 119 RX0 yX0_rollersLying wsX0_rollersLying) := goodIn_app (goodIn_of _ (by decide +kernel)) ggX0_fact_X0_rollersLying
set_option maxRecDepth 20000 in
theorem ggX0_addTo_X0_fact : GoodIn wsX0_addTo wsX0_fact := goodIn_r _ [8, 9, 10, 11, 12, 13, 14, 15, 16, 17, 18, 19, 7, 20, 2, 3, 21, 22, 23, 24, 25, 26, 27, 28, 29, 30, 31, 32, 33, 34, 35, 36, 37, 38, 39, 40, 41, 42, 43, 44, 45] (by decide +kernel) (by decide +kernel)
set_option maxRecDepth 20000 in
theorem gX0_addTo_X0_fact : GoodIn wsX0_addTo (wsV RX0 134 RX0 yX0_fact wsX0_fact) := goodIn_app (goodIn_of _ (by decide +kernel)) ggX0_addTo_X0_fact
end
section
theorem dX3_init_0 : decode cX3_init 0 = .ok (.aload_n 0, 1) := by decide +kernel
theorem dX3_init_1 : decode cX3_init 1 = .ok (.invokespecial 3, 3) := by decide +kernel
theorem dX3_init_4 : decode cX3_init 4 = .ok (.aload_n 0, 1) := by decide +kernel
theorem dX3_init_5 : decode cX3_init 5 = .ok (.sipush 500, 3) := by decide +kernel
theorem dX3_init_8 : decode cX3_init 8 = .ok (.putfield 9, 3) := by decide +kernel
theorem dX3_init_11 : decode cX3_init 11 = .ok (.aload_n 0, 1) := by decide +kernel
theorem dX3_init_12 : decode cX3_init 12 = .ok (.iconst 1, 1) := by decide +kernel
theorem dX3_init_13 : decode cX3_init 13 = .ok (.putfield 13, 3) := by decide +kernel
theorem dX3_init_16 : decode cX3_init 16 = .ok (.aload_n 0, 1) := by decide +kernel
theorem dX3_init_17 : decode cX3_init 17 = .ok (.bipush 39, 2) := by decide +kernel
theorem dX3_init_19 : decode cX3_init 19 = .ok (.newarray .int, 2) := by decide +kernel
theorem dX3_init_21 : decode cX3_init 21 = .ok (.putfield 16, 3) := by decide +kernel
theorem dX3_init_24 : decode cX3_init 24 = .ok (.aload_n 0, 1) := by decide +kernel
theorem dX3_init_25 : decode cX3_init 25 = .ok (.sipush 174, 3) := by decide +kernel
theorem dX3_init_28 : decode cX3_init 28 = .ok (.newarray .int, 2) := by decide +kernel
theorem dX3_init_30 : decode cX3_init 30 = .ok (.putfield 20, 3) := by decide +kernel
theorem dX3_init_33 : decode cX3_init 33 = .ok (.aload_n 0, 1) := by decide +kernel
theorem dX3_init_34 : decode cX3_init 34 = .ok (.sipush 174, 3) := by decide +kernel
theorem dX3_init_37 : decode cX3_init 37 = .ok (.newarray .int, 2) := by decide +kernel
theorem dX3_init_39 : decode cX3_init 39 = .ok (.putfield 23, 3) := by decide +kernel
theorem dX3_init_42 : decode cX3_init 42 = .ok (.aload_n 0, 1) := by decide +kernel
theorem dX3_init_43 : decode cX3_init 43 = .ok (.getfield 16, 3) := by decide +kernel
theorem dX3_init_46 : decode cX3_init 46 = .ok (.iconst 2, 1) := by decide +kernel
theorem dX3_init_47 : decode cX3_init 47 = .ok (.iconst 2, 1) := by decide +kernel
theorem dX3_init_48 : decode cX3_init 48 = .ok (.iastore, 1) := by decide +kernel
theorem dX3_init_49 : decode cX3_init 49 = .ok (.return_, 1) := by decide +kernel
theorem dX3_thrown_0 : decode cX3_thrown 0 = .ok (.aload_n 0, 1) := by decide +kernel
theorem dX3_thrown_1 : decode cX3_thrown 1 = .ok (.getfield 26, 3) := by decide +kernel
theorem dX3_thrown_4 : decode cX3_thrown 4 = .ok (.ireturn, 1) := by decide +kernel
theorem dX3_fail_0 : decode cX3_fail 0 = .ok (.aload_n 0, 1) := by decide +kernel
theorem dX3_fail_1 : decode cX3_fail 1 = .ok (.iload_n 1, 1) := by decide +kernel
theorem dX3_fail_2 : decode cX3_fail 2 = .ok (.putfield 26, 3) := by decide +kernel
theorem dX3_fail_5 : decode cX3_fail 5 = .ok (.iconst 0, 1) := by decide +kernel
theorem dX3_fail_6 : decode cX3_fail 6 = .ok (.ireturn, 1) := by decide +kernel
theorem dX3_isIn_0 : decode cX3_isIn 0 = .ok (.iload_n 0, 1) := by decide +kernel
theorem dX3_isIn_1 : decode cX3_isIn 1 = .ok (.iload_n 1, 1) := by decide +kernel
theorem dX3_isIn_2 : decode cX3_isIn 2 = .ok (.if_icmp .lt 12, 3) := by decide +kernel
theorem dX3_isIn_5 : decode cX3_isIn 5 = .ok (.iload_n 0, 1) := by decide +kernel
theorem dX3_isIn_6 : decode cX3_isIn 6 = .ok (.iload_n 2, 1) := by decide +kernel
theorem dX3_isIn_7 : decode cX3_isIn 7 = .ok (.if_icmp .gt 7, 3) := by decide +kernel
theorem dX3_isIn_10 : decode cX3_isIn 10 = .ok (.iconst 1, 1) := by decide +kernel
theorem dX3_isIn_11 : decode cX3_isIn 11 = .ok (.goto 4, 3) := by decide +kernel
theorem dX3_isIn_14 : decode cX3_isIn 14 = .ok (.iconst 0, 1) := by decide +kernel
theorem dX3_isIn_15 : decode cX3_isIn 15 = .ok (.ireturn, 1) := by decide +kernel
theorem dX3_isTeam_0 : decode cX3_isTeam 0 = .ok (.iload_n 1, 1) := by decide +kernel
theorem dX3_isTeam_1 : decode cX3_isTeam 1 = .ok (.iconst 0, 1) := by decide +kernel
theorem dX3_isTeam_2 : decode cX3_isTeam 2 = .ok (.aload_n 0, 1) := by decide +kernel
theorem dX3_isTeam_3 : decode cX3_isTeam 3 = .ok (.getfield 29, 3) := by decide +kernel
theorem dX3_isTeam_6 : decode cX3_isTeam 6 = .ok (.iconst 1, 1) := by decide +kernel
theorem dX3_isTeam_7 : decode cX3_isTeam 7 = .ok (.isub, 1) := by decide +kernel
theorem dX3_isTeam_8 : decode cX3_isTeam 8 = .ok (.invokestatic 32, 3) := by decide +kernel
theorem dX3_isTeam_11 : decode cX3_isTeam 11 = .ok (.ireturn, 1) := by decide +kernel
theorem dX3_get_0 : decode cX3_get 0 = .ok (.aload_n 0, 1) := by decide +kernel
theorem dX3_get_1 : decode cX3_get 1 = .ok (.getfield 20, 3) := by decide +kernel
theorem dX3_get_4 : decode cX3_get 4 = .ok (.bipush 29, 2) := by decide +kernel
theorem dX3_get_6 : decode cX3_get 6 = .ok (.iload_n 1, 1) := by decide +kernel
theorem dX3_get_7 : decode cX3_get 7 = .ok (.imul, 1) := by decide +kernel
theorem dX3_get_8 : decode cX3_get 8 = .ok (.iload_n 2, 1) := by decide +kernel
theorem dX3_get_9 : decode cX3_get 9 = .ok (.iadd, 1) := by decide +kernel
theorem dX3_get_10 : decode cX3_get 10 = .ok (.iaload, 1) := by decide +kernel
theorem dX3_get_11 : decode cX3_get 11 = .ok (.ireturn, 1) := by decide +kernel
theorem dX3_set_0 : decode cX3_set 0 = .ok (.aload_n 0, 1) := by decide +kernel
theorem dX3_set_1 : decode cX3_set 1 = .ok (.getfield 20, 3) := by decide +kernel
theorem dX3_set_4 : decode cX3_set 4 = .ok (.bipush 29, 2) := by decide +kernel
theorem dX3_set_6 : decode cX3_set 6 = .ok (.iload_n 1, 1) := by decide +kernel
theorem dX3_set_7 : decode cX3_set 7 = .ok (.imul, 1) := by decide +kernel
theorem dX3_set_8 : decode cX3_set 8 = .ok (.iload_n 2, 1) := by decide +kernel
theorem dX3_set_9 : decode cX3_set 9 = .ok (.iadd, 1) := by decide +kernel
theorem dX3_set_10 : decode cX3_set 10 = .ok (.iload_n 3, 1) := by decide +kernel
theorem dX3_set_11 : decode cX3_set 11 = .ok (.iastore, 1) := by decide +kernel
theorem dX3_set_12 : decode cX3_set 12 = .ok (.return_, 1) := by decide +kernel
theorem dX3_setLength_0 : decode cX3_setLength 0 = .ok (.aload_n 0, 1) := by decide +kernel
theorem dX3_setLength_1 : decode cX3_setLength 1 = .ok (.iconst 0, 1) := by decide +kernel
theorem dX3_setLength_2 : decode cX3_setLength 2 = .ok (.putfield 26, 3) := by decide +kernel
theorem dX3_setLength_5 : decode cX3_setLength 5 = .ok (.iload_n 1, 1) := by decide +kernel
theorem dX3_setLength_6 : decode cX3_setLength 6 = .ok (.bipush 100, 2) := by decide +kernel
theorem dX3_setLength_8 : decode cX3_setLength 8 = .ok (.sipush 2000, 3) := by decide +kernel
theorem dX3_setLength_11 : decode cX3_setLength 11 = .ok (.invokestatic 32, 3) := by decide +kernel
theorem dX3_setLength_14 : decode cX3_setLength 14 = .ok (.ifCond .ne 9, 3) := by decide +kernel
theorem dX3_setLength_17 : decode cX3_setLength 17 = .ok (.aload_n 0, 1) := by decide +kernel
theorem dX3_setLength_18 : decode cX3_setLength 18 = .ok (.iconst 1, 1) := by decide +kernel
theorem dX3_setLength_19 : decode cX3_setLength 19 = .ok (.invokevirtual 36, 3) := by decide +kernel
theorem dX3_setLength_22 : decode cX3_setLength 22 = .ok (.ireturn, 1) := by decide +kernel
theorem dX3_setLength_23 : decode cX3_setLength 23 = .ok (.aload_n 0, 1) := by decide +kernel
theorem dX3_setLength_24 : decode cX3_setLength 24 = .ok (.getfield 40, 3) := by decide +kernel
theorem dX3_setLength_27 : decode cX3_setLength 27 = .ok (.ifCond .eq 9, 3) := by decide +kernel
theorem dX3_setLength_30 : decode cX3_setLength 30 = .ok (.aload_n 0, 1) := by decide +kernel
theorem dX3_setLength_31 : decode cX3_setLength 31 = .ok (.iconst 2, 1) := by decide +kernel
theorem dX3_setLength_32 : decode cX3_setLength 32 = .ok (.invokevirtual 36, 3) := by decide +kernel
theorem dX3_setLength_35 : decode cX3_setLength 35 = .ok (.ireturn, 1) := by decide +kernel
theorem dX3_setLength_36 : decode cX3_setLength 36 = .ok (.aload_n 0, 1) := by decide +kernel
theorem dX3_setLength_37 : decode cX3_setLength 37 = .ok (.getfield 9, 3) := by decide +kernel
theorem dX3_setLength_40 : decode cX3_setLength 40 = .ok (.istore_n 2, 1) := by decide +kernel
theorem dX3_setLength_41 : decode cX3_setLength 41 = .ok (.aload_n 0, 1) := by decide +kernel
theorem dX3_setLength_42 : decode cX3_setLength 42 = .ok (.iload_n 1, 1) := by decide +kernel
theorem dX3_setLength_43 : decode cX3_setLength 43 = .ok (.putfield 9, 3) := by decide +kernel
theorem dX3_setLength_46 : decode cX3_setLength 46 = .ok (.iload_n 2, 1) := by decide +kernel
theorem dX3_setLength_47 : decode cX3_setLength 47 = .ok (.ireturn, 1) := by decide +kernel
theorem dX3_stretchAt_0 : decode cX3_stretchAt 0 = .ok (.aload_n 0, 1) := by decide +kernel
theorem dX3_stretchAt_1 : decode cX3_stretchAt 1 = .ok (.getfield 13, 3) := by decide +kernel
theorem dX3_stretchAt_4 : decode cX3_stretchAt 4 = .ok (.iconst 1, 1) := by decide +kernel
theorem dX3_stretchAt_5 : decode cX3_stretchAt 5 = .ok (.isub, 1) := by decide +kernel
theorem dX3_stretchAt_6 : decode cX3_stretchAt 6 = .ok (.istore_n 2, 1) := by decide +kernel
theorem dX3_stretchAt_7 : decode cX3_stretchAt 7 = .ok (.iload_n 2, 1) := by decide +kernel
theorem dX3_stretchAt_8 : decode cX3_stretchAt 8 = .ok (.ifCond .le 21, 3) := by decide +kernel
theorem dX3_stretchAt_11 : decode cX3_stretchAt 11 = .ok (.aload_n 0, 1) := by decide +kernel
theorem dX3_stretchAt_12 : decode cX3_stretchAt 12 = .ok (.getfield 16, 3) := by decide +kernel
theorem dX3_stretchAt_15 : decode cX3_stretchAt 15 = .ok (.iconst 3, 1) := by decide +kernel
theorem dX3_stretchAt_16 : decode cX3_stretchAt 16 = .ok (.iload_n 2, 1) := by decide +kernel
theorem dX3_stretchAt_17 : decode cX3_stretchAt 17 = .ok (.imul, 1) := by decide +kernel
theorem dX3_stretchAt_18 : decode cX3_stretchAt 18 = .ok (.iaload, 1) := by decide +kernel
theorem dX3_stretchAt_19 : decode cX3_stretchAt 19 = .ok (.iload_n 1, 1) := by decide +kernel
theorem dX3_stretchAt_20 : decode cX3_stretchAt 20 = .ok (.if_icmp .le 9, 3) := by decide +kernel
theorem dX3_stretchAt_23 : decode cX3_stretchAt 23 = .ok (.iinc 2 (-1), 3) := by decide +kernel
theorem dX3_stretchAt_26 : decode cX3_stretchAt 26 = .ok (.goto (-19), 3) := by decide +kernel
theorem dX3_stretchAt_29 : decode cX3_stretchAt 29 = .ok (.iload_n 2, 1) := by decide +kernel
theorem dX3_stretchAt_30 : decode cX3_stretchAt 30 = .ok (.ireturn, 1) := by decide +kernel
theorem dX3_lay_0 : decode cX3_lay 0 = .ok (.aload_n 0, 1) := by decide +kernel
theorem dX3_lay_1 : decode cX3_lay 1 = .ok (.iconst 0, 1) := by decide +kernel
theorem dX3_lay_2 : decode cX3_lay 2 = .ok (.putfield 26, 3) := by decide +kernel
theorem dX3_lay_5 : decode cX3_lay 5 = .ok (.iload_n 1, 1) := by decide +kernel
theorem dX3_lay_6 : decode cX3_lay 6 = .ok (.iconst 0, 1) := by decide +kernel
theorem dX3_lay_7 : decode cX3_lay 7 = .ok (.sipush 1999, 3) := by decide +kernel
theorem dX3_lay_10 : decode cX3_lay 10 = .ok (.invokestatic 32, 3) := by decide +kernel
theorem dX3_lay_13 : decode cX3_lay 13 = .ok (.ifCond .eq 23, 3) := by decide +kernel
theorem dX3_lay_16 : decode cX3_lay 16 = .ok (.iload_n 2, 1) := by decide +kernel
theorem dX3_lay_17 : decode cX3_lay 17 = .ok (.bipush (-5), 2) := by decide +kernel
theorem dX3_lay_19 : decode cX3_lay 19 = .ok (.iconst 5, 1) := by decide +kernel
theorem dX3_lay_20 : decode cX3_lay 20 = .ok (.invokestatic 32, 3) := by decide +kernel
theorem dX3_lay_23 : decode cX3_lay 23 = .ok (.ifCond .eq 13, 3) := by decide +kernel
theorem dX3_lay_26 : decode cX3_lay 26 = .ok (.iload_n 3, 1) := by decide +kernel
theorem dX3_lay_27 : decode cX3_lay 27 = .ok (.iconst 0, 1) := by decide +kernel
theorem dX3_lay_28 : decode cX3_lay 28 = .ok (.bipush 9, 2) := by decide +kernel
theorem dX3_lay_30 : decode cX3_lay 30 = .ok (.invokestatic 32, 3) := by decide +kernel
theorem dX3_lay_33 : decode cX3_lay 33 = .ok (.ifCond .ne 9, 3) := by decide +kernel
theorem dX3_lay_36 : decode cX3_lay 36 = .ok (.aload_n 0, 1) := by decide +kernel
theorem dX3_lay_37 : decode cX3_lay 37 = .ok (.iconst 1, 1) := by decide +kernel
theorem dX3_lay_38 : decode cX3_lay 38 = .ok (.invokevirtual 36, 3) := by decide +kernel
theorem dX3_lay_41 : decode cX3_lay 41 = .ok (.ireturn, 1) := by decide +kernel
theorem dX3_lay_42 : decode cX3_lay 42 = .ok (.aload_n 0, 1) := by decide +kernel
theorem dX3_lay_43 : decode cX3_lay 43 = .ok (.iload_n 1, 1) := by decide +kernel
theorem dX3_lay_44 : decode cX3_lay 44 = .ok (.invokevirtual 43, 3) := by decide +kernel
theorem dX3_lay_47 : decode cX3_lay 47 = .ok (.istore 4, 2) := by decide +kernel
theorem dX3_lay_49 : decode cX3_lay 49 = .ok (.aload_n 0, 1) := by decide +kernel
theorem dX3_lay_50 : decode cX3_lay 50 = .ok (.getfield 16, 3) := by decide +kernel
theorem dX3_lay_53 : decode cX3_lay 53 = .ok (.iconst 3, 1) := by decide +kernel
theorem dX3_lay_54 : decode cX3_lay 54 = .ok (.iload 4, 2) := by decide +kernel
theorem dX3_lay_56 : decode cX3_lay 56 = .ok (.imul, 1) := by decide +kernel
theorem dX3_lay_57 : decode cX3_lay 57 = .ok (.iaload, 1) := by decide +kernel
theorem dX3_lay_58 : decode cX3_lay 58 = .ok (.iload_n 1, 1) := by decide +kernel
theorem dX3_lay_59 : decode cX3_lay 59 = .ok (.if_icmp .eq 7, 3) := by decide +kernel
theorem dX3_lay_62 : decode cX3_lay 62 = .ok (.iconst 1, 1) := by decide +kernel
theorem dX3_lay_63 : decode cX3_lay 63 = .ok (.goto 4, 3) := by decide +kernel
theorem dX3_lay_66 : decode cX3_lay 66 = .ok (.iconst 0, 1) := by decide +kernel
theorem dX3_lay_67 : decode cX3_lay 67 = .ok (.istore 5, 2) := by decide +kernel
theorem dX3_lay_69 : decode cX3_lay 69 = .ok (.iload 5, 2) := by decide +kernel
theorem dX3_lay_71 : decode cX3_lay 71 = .ok (.ifCond .eq 18, 3) := by decide +kernel
theorem dX3_lay_74 : decode cX3_lay 74 = .ok (.aload_n 0, 1) := by decide +kernel
theorem dX3_lay_75 : decode cX3_lay 75 = .ok (.getfield 13, 3) := by decide +kernel
theorem dX3_lay_78 : decode cX3_lay 78 = .ok (.bipush 12, 2) := by decide +kernel
theorem dX3_lay_80 : decode cX3_lay 80 = .ok (.if_icmp .ne 9, 3) := by decide +kernel
theorem dX3_lay_83 : decode cX3_lay 83 = .ok (.aload_n 0, 1) := by decide +kernel
theorem dX3_lay_84 : decode cX3_lay 84 = .ok (.iconst 2, 1) := by decide +kernel
theorem dX3_lay_85 : decode cX3_lay 85 = .ok (.invokevirtual 36, 3) := by decide +kernel
theorem dX3_lay_88 : decode cX3_lay 88 = .ok (.ireturn, 1) := by decide +kernel
theorem dX3_lay_89 : decode cX3_lay 89 = .ok (.iload 5, 2) := by decide +kernel
theorem dX3_lay_91 : decode cX3_lay 91 = .ok (.ifCond .eq 46, 3) := by decide +kernel
theorem dX3_lay_94 : decode cX3_lay 94 = .ok (.iinc 4 1, 3) := by decide +kernel
theorem dX3_lay_97 : decode cX3_lay 97 = .ok (.aload_n 0, 1) := by decide +kernel
theorem dX3_lay_98 : decode cX3_lay 98 = .ok (.getfield 16, 3) := by decide +kernel
theorem dX3_lay_101 : decode cX3_lay 101 = .ok (.iconst 3, 1) := by decide +kernel
theorem dX3_lay_102 : decode cX3_lay 102 = .ok (.iload 4, 2) := by decide +kernel
theorem dX3_lay_104 : decode cX3_lay 104 = .ok (.imul, 1) := by decide +kernel
theorem dX3_lay_105 : decode cX3_lay 105 = .ok (.aload_n 0, 1) := by decide +kernel
theorem dX3_lay_106 : decode cX3_lay 106 = .ok (.getfield 16, 3) := by decide +kernel
theorem dX3_lay_109 : decode cX3_lay 109 = .ok (.iconst 3, 1) := by decide +kernel
theorem dX3_lay_110 : decode cX3_lay 110 = .ok (.iload 4, 2) := by decide +kernel
theorem dX3_lay_112 : decode cX3_lay 112 = .ok (.iconst 1, 1) := by decide +kernel
theorem dX3_lay_113 : decode cX3_lay 113 = .ok (.iadd, 1) := by decide +kernel
theorem dX3_lay_114 : decode cX3_lay 114 = .ok (.imul, 1) := by decide +kernel
theorem dX3_lay_115 : decode cX3_lay 115 = .ok (.iconst 3, 1) := by decide +kernel
theorem dX3_lay_116 : decode cX3_lay 116 = .ok (.aload_n 0, 1) := by decide +kernel
theorem dX3_lay_117 : decode cX3_lay 117 = .ok (.getfield 13, 3) := by decide +kernel
theorem dX3_lay_120 : decode cX3_lay 120 = .ok (.iload 4, 2) := by decide +kernel
theorem dX3_lay_122 : decode cX3_lay 122 = .ok (.isub, 1) := by decide +kernel
theorem dX3_lay_123 : decode cX3_lay 123 = .ok (.imul, 1) := by decide +kernel
theorem dX3_lay_124 : decode cX3_lay 124 = .ok (.invokestatic 46, 3) := by decide +kernel
theorem dX3_lay_127 : decode cX3_lay 127 = .ok (.aload_n 0, 1) := by decide +kernel
theorem dX3_lay_128 : decode cX3_lay 128 = .ok (.dup, 1) := by decide +kernel
theorem dX3_lay_129 : decode cX3_lay 129 = .ok (.getfield 13, 3) := by decide +kernel
theorem dX3_lay_132 : decode cX3_lay 132 = .ok (.iconst 1, 1) := by decide +kernel
theorem dX3_lay_133 : decode cX3_lay 133 = .ok (.iadd, 1) := by decide +kernel
theorem dX3_lay_134 : decode cX3_lay 134 = .ok (.putfield 13, 3) := by decide +kernel
theorem dX3_lay_137 : decode cX3_lay 137 = .ok (.iconst 3, 1) := by decide +kernel
theorem dX3_lay_138 : decode cX3_lay 138 = .ok (.newarray .int, 2) := by decide +kernel
theorem dX3_lay_140 : decode cX3_lay 140 = .ok (.dup, 1) := by decide +kernel
theorem dX3_lay_141 : decode cX3_lay 141 = .ok (.iconst 0, 1) := by decide +kernel
theorem dX3_lay_142 : decode cX3_lay 142 = .ok (.iload_n 1, 1) := by decide +kernel
theorem dX3_lay_143 : decode cX3_lay 143 = .ok (.iastore, 1) := by decide +kernel
theorem dX3_lay_144 : decode cX3_lay 144 = .ok (.dup, 1) := by decide +kernel
theorem dX3_lay_145 : decode cX3_lay 145 = .ok (.iconst 1, 1) := by decide +kernel
theorem dX3_lay_146 : decode cX3_lay 146 = .ok (.iload_n 2, 1) := by decide +kernel
theorem dX3_lay_147 : decode cX3_lay 147 = .ok (.iastore, 1) := by decide +kernel
theorem dX3_lay_148 : decode cX3_lay 148 = .ok (.dup, 1) := by decide +kernel
theorem dX3_lay_149 : decode cX3_lay 149 = .ok (.iconst 2, 1) := by decide +kernel
theorem dX3_lay_150 : decode cX3_lay 150 = .ok (.iload_n 3, 1) := by decide +kernel
theorem dX3_lay_151 : decode cX3_lay 151 = .ok (.iastore, 1) := by decide +kernel
theorem dX3_lay_152 : decode cX3_lay 152 = .ok (.astore 6, 2) := by decide +kernel
theorem dX3_lay_154 : decode cX3_lay 154 = .ok (.aload 6, 2) := by decide +kernel
theorem dX3_lay_156 : decode cX3_lay 156 = .ok (.iconst 0, 1) := by decide +kernel
theorem dX3_lay_157 : decode cX3_lay 157 = .ok (.aload_n 0, 1) := by decide +kernel
theorem dX3_lay_158 : decode cX3_lay 158 = .ok (.getfield 16, 3) := by decide +kernel
theorem dX3_lay_161 : decode cX3_lay 161 = .ok (.iconst 3, 1) := by decide +kernel
theorem dX3_lay_162 : decode cX3_lay 162 = .ok (.iload 4, 2) := by decide +kernel
theorem dX3_lay_164 : decode cX3_lay 164 = .ok (.imul, 1) := by decide +kernel
theorem dX3_lay_165 : decode cX3_lay 165 = .ok (.iconst 3, 1) := by decide +kernel
theorem dX3_lay_166 : decode cX3_lay 166 = .ok (.invokestatic 46, 3) := by decide +kernel
theorem dX3_lay_169 : decode cX3_lay 169 = .ok (.aload_n 0, 1) := by decide +kernel
theorem dX3_lay_170 : decode cX3_lay 170 = .ok (.getfield 13, 3) := by decide +kernel
theorem dX3_lay_173 : decode cX3_lay 173 = .ok (.ireturn, 1) := by decide +kernel
theorem dX3_ground_0 : decode cX3_ground 0 = .ok (.aload_n 0, 1) := by decide +kernel
theorem dX3_ground_1 : decode cX3_ground 1 = .ok (.iconst 0, 1) := by decide +kernel
theorem dX3_ground_2 : decode cX3_ground 2 = .ok (.putfield 26, 3) := by decide +kernel
theorem dX3_ground_5 : decode cX3_ground 5 = .ok (.iload_n 1, 1) := by decide +kernel
theorem dX3_ground_6 : decode cX3_ground 6 = .ok (.bipush (-100), 2) := by decide +kernel
theorem dX3_ground_8 : decode cX3_ground 8 = .ok (.sipush 3000, 3) := by decide +kernel
theorem dX3_ground_11 : decode cX3_ground 11 = .ok (.invokestatic 32, 3) := by decide +kernel
theorem dX3_ground_14 : decode cX3_ground 14 = .ok (.ifCond .eq 28, 3) := by decide +kernel
theorem dX3_ground_17 : decode cX3_ground 17 = .ok (.aload_n 0, 1) := by decide +kernel
theorem dX3_ground_18 : decode cX3_ground 18 = .ok (.getfield 16, 3) := by decide +kernel
theorem dX3_ground_21 : decode cX3_ground 21 = .ok (.iconst 3, 1) := by decide +kernel
theorem dX3_ground_22 : decode cX3_ground 22 = .ok (.aload_n 0, 1) := by decide +kernel
theorem dX3_ground_23 : decode cX3_ground 23 = .ok (.iload_n 1, 1) := by decide +kernel
theorem dX3_ground_24 : decode cX3_ground 24 = .ok (.invokevirtual 43, 3) := by decide +kernel
theorem dX3_ground_27 : decode cX3_ground 27 = .ok (.imul, 1) := by decide +kernel
theorem dX3_ground_28 : decode cX3_ground 28 = .ok (.iload_n 2, 1) := by decide +kernel
theorem dX3_ground_29 : decode cX3_ground 29 = .ok (.ifCond .eq 7, 3) := by decide +kernel
theorem dX3_ground_32 : decode cX3_ground 32 = .ok (.iconst 2, 1) := by decide +kernel
theorem dX3_ground_33 : decode cX3_ground 33 = .ok (.goto 4, 3) := by decide +kernel
theorem dX3_ground_36 : decode cX3_ground 36 = .ok (.iconst 1, 1) := by decide +kernel
theorem dX3_ground_37 : decode cX3_ground 37 = .ok (.iadd, 1) := by decide +kernel
theorem dX3_ground_38 : decode cX3_ground 38 = .ok (.iaload, 1) := by decide +kernel
theorem dX3_ground_39 : decode cX3_ground 39 = .ok (.goto 8, 3) := by decide +kernel
theorem dX3_ground_42 : decode cX3_ground 42 = .ok (.aload_n 0, 1) := by decide +kernel
theorem dX3_ground_43 : decode cX3_ground 43 = .ok (.iconst 1, 1) := by decide +kernel
theorem dX3_ground_44 : decode cX3_ground 44 = .ok (.invokevirtual 36, 3) := by decide +kernel
theorem dX3_ground_47 : decode cX3_ground 47 = .ok (.ireturn, 1) := by decide +kernel
theorem dX3_begin_0 : decode cX3_begin 0 = .ok (.aload_n 0, 1) := by decide +kernel
theorem dX3_begin_1 : decode cX3_begin 1 = .ok (.iload_n 1, 1) := by decide +kernel
theorem dX3_begin_2 : decode cX3_begin 2 = .ok (.bipush 9, 2) := by decide +kernel
theorem dX3_begin_4 : decode cX3_begin 4 = .ok (.iconst 0, 1) := by decide +kernel
theorem dX3_begin_5 : decode cX3_begin 5 = .ok (.invokevirtual 52, 3) := by decide +kernel
theorem dX3_begin_8 : decode cX3_begin 8 = .ok (.aload_n 0, 1) := by decide +kernel
theorem dX3_begin_9 : decode cX3_begin 9 = .ok (.iload_n 1, 1) := by decide +kernel
theorem dX3_begin_10 : decode cX3_begin 10 = .ok (.bipush 10, 2) := by decide +kernel
theorem dX3_begin_12 : decode cX3_begin 12 = .ok (.sipush 1000, 3) := by decide +kernel
theorem dX3_begin_15 : decode cX3_begin 15 = .ok (.invokevirtual 52, 3) := by decide +kernel
theorem dX3_begin_18 : decode cX3_begin 18 = .ok (.aload_n 0, 1) := by decide +kernel
theorem dX3_begin_19 : decode cX3_begin 19 = .ok (.iload_n 1, 1) := by decide +kernel
theorem dX3_begin_20 : decode cX3_begin 20 = .ok (.bipush 11, 2) := by decide +kernel
theorem dX3_begin_22 : decode cX3_begin 22 = .ok (.aload_n 0, 1) := by decide +kernel
theorem dX3_begin_23 : decode cX3_begin 23 = .ok (.iload_n 1, 1) := by decide +kernel
theorem dX3_begin_24 : decode cX3_begin 24 = .ok (.bipush 6, 2) := by decide +kernel
theorem dX3_begin_26 : decode cX3_begin 26 = .ok (.invokevirtual 56, 3) := by decide +kernel
theorem dX3_begin_29 : decode cX3_begin 29 = .ok (.invokevirtual 52, 3) := by decide +kernel
theorem dX3_begin_32 : decode cX3_begin 32 = .ok (.aload_n 0, 1) := by decide +kernel
theorem dX3_begin_33 : decode cX3_begin 33 = .ok (.iload_n 1, 1) := by decide +kernel
theorem dX3_begin_34 : decode cX3_begin 34 = .ok (.bipush 12, 2) := by decide +kernel
theorem dX3_begin_36 : decode cX3_begin 36 = .ok (.iconst 0, 1) := by decide +kernel
theorem dX3_begin_37 : decode cX3_begin 37 = .ok (.invokevirtual 52, 3) := by decide +kernel
theorem dX3_begin_40 : decode cX3_begin 40 = .ok (.aload_n 0, 1) := by decide +kernel
theorem dX3_begin_41 : decode cX3_begin 41 = .ok (.iload_n 1, 1) := by decide +kernel
theorem dX3_begin_42 : decode cX3_begin 42 = .ok (.bipush 13, 2) := by decide +kernel
theorem dX3_begin_44 : decode cX3_begin 44 = .ok (.iconst (-1), 1) := by decide +kernel
theorem dX3_begin_45 : decode cX3_begin 45 = .ok (.invokevirtual 52, 3) := by decide +kernel
theorem dX3_begin_48 : decode cX3_begin 48 = .ok (.aload_n 0, 1) := by decide +kernel
theorem dX3_begin_49 : decode cX3_begin 49 = .ok (.iload_n 1, 1) := by decide +kernel
theorem dX3_begin_50 : decode cX3_begin 50 = .ok (.bipush 14, 2) := by decide +kernel
theorem dX3_begin_52 : decode cX3_begin 52 = .ok (.iconst 0, 1) := by decide +kernel
theorem dX3_begin_53 : decode cX3_begin 53 = .ok (.invokevirtual 52, 3) := by decide +kernel
theorem dX3_begin_56 : decode cX3_begin 56 = .ok (.iconst 0, 1) := by decide +kernel
theorem dX3_begin_57 : decode cX3_begin 57 = .ok (.istore_n 2, 1) := by decide +kernel
theorem dX3_begin_58 : decode cX3_begin 58 = .ok (.iload_n 2, 1) := by decide +kernel
theorem dX3_begin_59 : decode cX3_begin 59 = .ok (.bipush 8, 2) := by decide +kernel
theorem dX3_begin_61 : decode cX3_begin 61 = .ok (.if_icmp .ge 38, 3) := by decide +kernel
theorem dX3_begin_64 : decode cX3_begin 64 = .ok (.aload_n 0, 1) := by decide +kernel
theorem dX3_begin_65 : decode cX3_begin 65 = .ok (.iload_n 1, 1) := by decide +kernel
theorem dX3_begin_66 : decode cX3_begin 66 = .ok (.bipush 15, 2) := by decide +kernel
theorem dX3_begin_68 : decode cX3_begin 68 = .ok (.iload_n 2, 1) := by decide +kernel
theorem dX3_begin_69 : decode cX3_begin 69 = .ok (.iadd, 1) := by decide +kernel
theorem dX3_begin_70 : decode cX3_begin 70 = .ok (.iload_n 2, 1) := by decide +kernel
theorem dX3_begin_71 : decode cX3_begin 71 = .ok (.iconst 1, 1) := by decide +kernel
theorem dX3_begin_72 : decode cX3_begin 72 = .ok (.iadd, 1) := by decide +kernel
theorem dX3_begin_73 : decode cX3_begin 73 = .ok (.aload_n 0, 1) := by decide +kernel
theorem dX3_begin_74 : decode cX3_begin 74 = .ok (.iload_n 1, 1) := by decide +kernel
theorem dX3_begin_75 : decode cX3_begin 75 = .ok (.iconst 0, 1) := by decide +kernel
theorem dX3_begin_76 : decode cX3_begin 76 = .ok (.invokevirtual 56, 3) := by decide +kernel
theorem dX3_begin_79 : decode cX3_begin 79 = .ok (.imul, 1) := by decide +kernel
theorem dX3_begin_80 : decode cX3_begin 80 = .ok (.aload_n 0, 1) := by decide +kernel
theorem dX3_begin_81 : decode cX3_begin 81 = .ok (.iload_n 1, 1) := by decide +kernel
theorem dX3_begin_82 : decode cX3_begin 82 = .ok (.iconst 2, 1) := by decide +kernel
theorem dX3_begin_83 : decode cX3_begin 83 = .ok (.invokevirtual 56, 3) := by decide +kernel
theorem dX3_begin_86 : decode cX3_begin 86 = .ok (.iconst 1, 1) := by decide +kernel
theorem dX3_begin_87 : decode cX3_begin 87 = .ok (.iadd, 1) := by decide +kernel
theorem dX3_begin_88 : decode cX3_begin 88 = .ok (.idiv, 1) := by decide +kernel
theorem dX3_begin_89 : decode cX3_begin 89 = .ok (.ineg, 1) := by decide +kernel
theorem dX3_begin_90 : decode cX3_begin 90 = .ok (.invokevirtual 52, 3) := by decide +kernel
theorem dX3_begin_93 : decode cX3_begin 93 = .ok (.iinc 2 1, 3) := by decide +kernel
theorem dX3_begin_96 : decode cX3_begin 96 = .ok (.goto (-38), 3) := by decide +kernel
theorem dX3_begin_99 : decode cX3_begin 99 = .ok (.iconst 0, 1) := by decide +kernel
theorem dX3_begin_100 : decode cX3_begin 100 = .ok (.istore_n 2, 1) := by decide +kernel
theorem dX3_begin_101 : decode cX3_begin 101 = .ok (.iload_n 2, 1) := by decide +kernel
theorem dX3_begin_102 : decode cX3_begin 102 = .ok (.iconst 3, 1) := by decide +kernel
theorem dX3_begin_103 : decode cX3_begin 103 = .ok (.if_icmp .ge 29, 3) := by decide +kernel
theorem dX3_begin_106 : decode cX3_begin 106 = .ok (.aload_n 0, 1) := by decide +kernel
theorem dX3_begin_107 : decode cX3_begin 107 = .ok (.iload_n 1, 1) := by decide +kernel
theorem dX3_begin_108 : decode cX3_begin 108 = .ok (.bipush 23, 2) := by decide +kernel
theorem dX3_begin_110 : decode cX3_begin 110 = .ok (.iload_n 2, 1) := by decide +kernel
theorem dX3_begin_111 : decode cX3_begin 111 = .ok (.iadd, 1) := by decide +kernel
theorem dX3_begin_112 : decode cX3_begin 112 = .ok (.iconst (-1), 1) := by decide +kernel
theorem dX3_begin_113 : decode cX3_begin 113 = .ok (.invokevirtual 52, 3) := by decide +kernel
theorem dX3_begin_116 : decode cX3_begin 116 = .ok (.aload_n 0, 1) := by decide +kernel
theorem dX3_begin_117 : decode cX3_begin 117 = .ok (.iload_n 1, 1) := by decide +kernel
theorem dX3_begin_118 : decode cX3_begin 118 = .ok (.bipush 26, 2) := by decide +kernel
theorem dX3_begin_120 : decode cX3_begin 120 = .ok (.iload_n 2, 1) := by decide +kernel
theorem dX3_begin_121 : decode cX3_begin 121 = .ok (.iadd, 1) := by decide +kernel
theorem dX3_begin_122 : decode cX3_begin 122 = .ok (.iconst 0, 1) := by decide +kernel
theorem dX3_begin_123 : decode cX3_begin 123 = .ok (.invokevirtual 52, 3) := by decide +kernel
theorem dX3_begin_126 : decode cX3_begin 126 = .ok (.iinc 2 1, 3) := by decide +kernel
theorem dX3_begin_129 : decode cX3_begin 129 = .ok (.goto (-28), 3) := by decide +kernel
theorem dX3_begin_132 : decode cX3_begin 132 = .ok (.return_, 1) := by decide +kernel
theorem dX3_addTeam_0 : decode cX3_addTeam 0 = .ok (.aload_n 0, 1) := by decide +kernel
theorem dX3_addTeam_1 : decode cX3_addTeam 1 = .ok (.iconst 0, 1) := by decide +kernel
theorem dX3_addTeam_2 : decode cX3_addTeam 2 = .ok (.putfield 26, 3) := by decide +kernel
theorem dX3_addTeam_5 : decode cX3_addTeam 5 = .ok (.iload_n 1, 1) := by decide +kernel
theorem dX3_addTeam_6 : decode cX3_addTeam 6 = .ok (.bipush 20, 2) := by decide +kernel
theorem dX3_addTeam_8 : decode cX3_addTeam 8 = .ok (.bipush 80, 2) := by decide +kernel
theorem dX3_addTeam_10 : decode cX3_addTeam 10 = .ok (.invokestatic 32, 3) := by decide +kernel
theorem dX3_addTeam_13 : decode cX3_addTeam 13 = .ok (.ifCond .eq 24, 3) := by decide +kernel
theorem dX3_addTeam_16 : decode cX3_addTeam 16 = .ok (.iload_n 2, 1) := by decide +kernel
theorem dX3_addTeam_17 : decode cX3_addTeam 17 = .ok (.bipush 10, 2) := by decide +kernel
theorem dX3_addTeam_19 : decode cX3_addTeam 19 = .ok (.bipush 99, 2) := by decide +kernel
theorem dX3_addTeam_21 : decode cX3_addTeam 21 = .ok (.invokestatic 32, 3) := by decide +kernel
theorem dX3_addTeam_24 : decode cX3_addTeam 24 = .ok (.ifCond .eq 13, 3) := by decide +kernel
theorem dX3_addTeam_27 : decode cX3_addTeam 27 = .ok (.iload_n 3, 1) := by decide +kernel
theorem dX3_addTeam_28 : decode cX3_addTeam 28 = .ok (.iconst 2, 1) := by decide +kernel
theorem dX3_addTeam_29 : decode cX3_addTeam 29 = .ok (.bipush 8, 2) := by decide +kernel
theorem dX3_addTeam_31 : decode cX3_addTeam 31 = .ok (.invokestatic 32, 3) := by decide +kernel
theorem dX3_addTeam_34 : decode cX3_addTeam 34 = .ok (.ifCond .ne 9, 3) := by decide +kernel
theorem dX3_addTeam_37 : decode cX3_addTeam 37 = .ok (.aload_n 0, 1) := by decide +kernel
theorem dX3_addTeam_38 : decode cX3_addTeam 38 = .ok (.iconst 1, 1) := by decide +kernel
theorem dX3_addTeam_39 : decode cX3_addTeam 39 = .ok (.invokevirtual 36, 3) := by decide +kernel
theorem dX3_addTeam_42 : decode cX3_addTeam 42 = .ok (.ireturn, 1) := by decide +kernel
theorem dX3_addTeam_43 : decode cX3_addTeam 43 = .ok (.aload_n 0, 1) := by decide +kernel
theorem dX3_addTeam_44 : decode cX3_addTeam 44 = .ok (.getfield 29, 3) := by decide +kernel
theorem dX3_addTeam_47 : decode cX3_addTeam 47 = .ok (.bipush 6, 2) := by decide +kernel
theorem dX3_addTeam_49 : decode cX3_addTeam 49 = .ok (.if_icmp .eq 10, 3) := by decide +kernel
theorem dX3_addTeam_52 : decode cX3_addTeam 52 = .ok (.aload_n 0, 1) := by decide +kernel
theorem dX3_addTeam_53 : decode cX3_addTeam 53 = .ok (.getfield 40, 3) := by decide +kernel
theorem dX3_addTeam_56 : decode cX3_addTeam 56 = .ok (.ifCond .eq 9, 3) := by decide +kernel
theorem dX3_addTeam_59 : decode cX3_addTeam 59 = .ok (.aload_n 0, 1) := by decide +kernel
theorem dX3_addTeam_60 : decode cX3_addTeam 60 = .ok (.iconst 2, 1) := by decide +kernel
theorem dX3_addTeam_61 : decode cX3_addTeam 61 = .ok (.invokevirtual 36, 3) := by decide +kernel
theorem dX3_addTeam_64 : decode cX3_addTeam 64 = .ok (.ireturn, 1) := by decide +kernel
theorem dX3_addTeam_65 : decode cX3_addTeam 65 = .ok (.bipush 9, 2) := by decide +kernel
theorem dX3_addTeam_67 : decode cX3_addTeam 67 = .ok (.newarray .int, 2) := by decide +kernel
theorem dX3_addTeam_69 : decode cX3_addTeam 69 = .ok (.dup, 1) := by decide +kernel
theorem dX3_addTeam_70 : decode cX3_addTeam 70 = .ok (.iconst 0, 1) := by decide +kernel
theorem dX3_addTeam_71 : decode cX3_addTeam 71 = .ok (.iload_n 1, 1) := by decide +kernel
theorem dX3_addTeam_72 : decode cX3_addTeam 72 = .ok (.iastore, 1) := by decide +kernel
theorem dX3_addTeam_73 : decode cX3_addTeam 73 = .ok (.dup, 1) := by decide +kernel
theorem dX3_addTeam_74 : decode cX3_addTeam 74 = .ok (.iconst 1, 1) := by decide +kernel
theorem dX3_addTeam_75 : decode cX3_addTeam 75 = .ok (.iload_n 2, 1) := by decide +kernel
theorem dX3_addTeam_76 : decode cX3_addTeam 76 = .ok (.iastore, 1) := by decide +kernel
theorem dX3_addTeam_77 : decode cX3_addTeam 77 = .ok (.dup, 1) := by decide +kernel
theorem dX3_addTeam_78 : decode cX3_addTeam 78 = .ok (.iconst 2, 1) := by decide +kernel
theorem dX3_addTeam_79 : decode cX3_addTeam 79 = .ok (.iload_n 3, 1) := by decide +kernel
theorem dX3_addTeam_80 : decode cX3_addTeam 80 = .ok (.iastore, 1) := by decide +kernel
theorem dX3_addTeam_81 : decode cX3_addTeam 81 = .ok (.dup, 1) := by decide +kernel
theorem dX3_addTeam_82 : decode cX3_addTeam 82 = .ok (.iconst 3, 1) := by decide +kernel
theorem dX3_addTeam_83 : decode cX3_addTeam 83 = .ok (.iconst 4, 1) := by decide +kernel
theorem dX3_addTeam_84 : decode cX3_addTeam 84 = .ok (.iastore, 1) := by decide +kernel
theorem dX3_addTeam_85 : decode cX3_addTeam 85 = .ok (.dup, 1) := by decide +kernel
theorem dX3_addTeam_86 : decode cX3_addTeam 86 = .ok (.iconst 4, 1) := by decide +kernel
theorem dX3_addTeam_87 : decode cX3_addTeam 87 = .ok (.bipush 10, 2) := by decide +kernel
theorem dX3_addTeam_89 : decode cX3_addTeam 89 = .ok (.iastore, 1) := by decide +kernel
theorem dX3_addTeam_90 : decode cX3_addTeam 90 = .ok (.dup, 1) := by decide +kernel
theorem dX3_addTeam_91 : decode cX3_addTeam 91 = .ok (.iconst 5, 1) := by decide +kernel
theorem dX3_addTeam_92 : decode cX3_addTeam 92 = .ok (.iconst 1, 1) := by decide +kernel
theorem dX3_addTeam_93 : decode cX3_addTeam 93 = .ok (.iastore, 1) := by decide +kernel
theorem dX3_addTeam_94 : decode cX3_addTeam 94 = .ok (.dup, 1) := by decide +kernel
theorem dX3_addTeam_95 : decode cX3_addTeam 95 = .ok (.bipush 6, 2) := by decide +kernel
theorem dX3_addTeam_97 : decode cX3_addTeam 97 = .ok (.sipush 200, 3) := by decide +kernel
theorem dX3_addTeam_100 : decode cX3_addTeam 100 = .ok (.iastore, 1) := by decide +kernel
theorem dX3_addTeam_101 : decode cX3_addTeam 101 = .ok (.dup, 1) := by decide +kernel
theorem dX3_addTeam_102 : decode cX3_addTeam 102 = .ok (.bipush 7, 2) := by decide +kernel
theorem dX3_addTeam_104 : decode cX3_addTeam 104 = .ok (.iconst 5, 1) := by decide +kernel
theorem dX3_addTeam_105 : decode cX3_addTeam 105 = .ok (.iastore, 1) := by decide +kernel
theorem dX3_addTeam_106 : decode cX3_addTeam 106 = .ok (.dup, 1) := by decide +kernel
theorem dX3_addTeam_107 : decode cX3_addTeam 107 = .ok (.bipush 8, 2) := by decide +kernel
theorem dX3_addTeam_109 : decode cX3_addTeam 109 = .ok (.bipush 10, 2) := by decide +kernel
theorem dX3_addTeam_111 : decode cX3_addTeam 111 = .ok (.iastore, 1) := by decide +kernel
theorem dX3_addTeam_112 : decode cX3_addTeam 112 = .ok (.astore 4, 2) := by decide +kernel
theorem dX3_addTeam_114 : decode cX3_addTeam 114 = .ok (.aload 4, 2) := by decide +kernel
theorem dX3_addTeam_116 : decode cX3_addTeam 116 = .ok (.iconst 0, 1) := by decide +kernel
theorem dX3_addTeam_117 : decode cX3_addTeam 117 = .ok (.aload_n 0, 1) := by decide +kernel
theorem dX3_addTeam_118 : decode cX3_addTeam 118 = .ok (.getfield 20, 3) := by decide +kernel
theorem dX3_addTeam_121 : decode cX3_addTeam 121 = .ok (.bipush 29, 2) := by decide +kernel
theorem dX3_addTeam_123 : decode cX3_addTeam 123 = .ok (.aload_n 0, 1) := by decide +kernel
theorem dX3_addTeam_124 : decode cX3_addTeam 124 = .ok (.getfield 29, 3) := by decide +kernel
theorem dX3_addTeam_127 : decode cX3_addTeam 127 = .ok (.imul, 1) := by decide +kernel
theorem dX3_addTeam_128 : decode cX3_addTeam 128 = .ok (.aload 4, 2) := by decide +kernel
theorem dX3_addTeam_130 : decode cX3_addTeam 130 = .ok (.arraylength, 1) := by decide +kernel
theorem dX3_addTeam_131 : decode cX3_addTeam 131 = .ok (.invokestatic 46, 3) := by decide +kernel
theorem dX3_addTeam_134 : decode cX3_addTeam 134 = .ok (.aload_n 0, 1) := by decide +kernel
theorem dX3_addTeam_135 : decode cX3_addTeam 135 = .ok (.dup, 1) := by decide +kernel
theorem dX3_addTeam_136 : decode cX3_addTeam 136 = .ok (.getfield 29, 3) := by decide +kernel
theorem dX3_addTeam_139 : decode cX3_addTeam 139 = .ok (.iconst 1, 1) := by decide +kernel
theorem dX3_addTeam_140 : decode cX3_addTeam 140 = .ok (.iadd, 1) := by decide +kernel
theorem dX3_addTeam_141 : decode cX3_addTeam 141 = .ok (.putfield 29, 3) := by decide +kernel
theorem dX3_addTeam_144 : decode cX3_addTeam 144 = .ok (.aload_n 0, 1) := by decide +kernel
theorem dX3_addTeam_145 : decode cX3_addTeam 145 = .ok (.aload_n 0, 1) := by decide +kernel
theorem dX3_addTeam_146 : decode cX3_addTeam 146 = .ok (.getfield 29, 3) := by decide +kernel
theorem dX3_addTeam_149 : decode cX3_addTeam 149 = .ok (.iconst 1, 1) := by decide +kernel
theorem dX3_addTeam_150 : decode cX3_addTeam 150 = .ok (.isub, 1) := by decide +kernel
theorem dX3_addTeam_151 : decode cX3_addTeam 151 = .ok (.invokevirtual 60, 3) := by decide +kernel
theorem dX3_addTeam_154 : decode cX3_addTeam 154 = .ok (.aload_n 0, 1) := by decide +kernel
theorem dX3_addTeam_155 : decode cX3_addTeam 155 = .ok (.getfield 29, 3) := by decide +kernel
theorem dX3_addTeam_158 : decode cX3_addTeam 158 = .ok (.iconst 1, 1) := by decide +kernel
theorem dX3_addTeam_159 : decode cX3_addTeam 159 = .ok (.isub, 1) := by decide +kernel
theorem dX3_addTeam_160 : decode cX3_addTeam 160 = .ok (.ireturn, 1) := by decide +kernel
theorem dX3_setCrew_0 : decode cX3_setCrew 0 = .ok (.aload_n 0, 1) := by decide +kernel
theorem dX3_setCrew_1 : decode cX3_setCrew 1 = .ok (.iconst 0, 1) := by decide +kernel
theorem dX3_setCrew_2 : decode cX3_setCrew 2 = .ok (.putfield 26, 3) := by decide +kernel
theorem dX3_setCrew_5 : decode cX3_setCrew 5 = .ok (.aload_n 0, 1) := by decide +kernel
theorem dX3_setCrew_6 : decode cX3_setCrew 6 = .ok (.iload_n 1, 1) := by decide +kernel
theorem dX3_setCrew_7 : decode cX3_setCrew 7 = .ok (.invokevirtual 64, 3) := by decide +kernel
theorem dX3_setCrew_10 : decode cX3_setCrew 10 = .ok (.ifCond .ne 9, 3) := by decide +kernel
theorem dX3_setCrew_13 : decode cX3_setCrew 13 = .ok (.aload_n 0, 1) := by decide +kernel
theorem dX3_setCrew_14 : decode cX3_setCrew 14 = .ok (.iconst 1, 1) := by decide +kernel
theorem dX3_setCrew_15 : decode cX3_setCrew 15 = .ok (.invokevirtual 36, 3) := by decide +kernel
theorem dX3_setCrew_18 : decode cX3_setCrew 18 = .ok (.ireturn, 1) := by decide +kernel
theorem dX3_setCrew_19 : decode cX3_setCrew 19 = .ok (.iload_n 2, 1) := by decide +kernel
theorem dX3_setCrew_20 : decode cX3_setCrew 20 = .ok (.iconst 1, 1) := by decide +kernel
theorem dX3_setCrew_21 : decode cX3_setCrew 21 = .ok (.bipush 9, 2) := by decide +kernel
theorem dX3_setCrew_23 : decode cX3_setCrew 23 = .ok (.invokestatic 32, 3) := by decide +kernel
theorem dX3_setCrew_26 : decode cX3_setCrew 26 = .ok (.ifCond .eq 36, 3) := by decide +kernel
theorem dX3_setCrew_29 : decode cX3_setCrew 29 = .ok (.iload_n 3, 1) := by decide +kernel
theorem dX3_setCrew_30 : decode cX3_setCrew 30 = .ok (.iconst 1, 1) := by decide +kernel
theorem dX3_setCrew_31 : decode cX3_setCrew 31 = .ok (.bipush 20, 2) := by decide +kernel
theorem dX3_setCrew_33 : decode cX3_setCrew 33 = .ok (.invokestatic 32, 3) := by decide +kernel
theorem dX3_setCrew_36 : decode cX3_setCrew 36 = .ok (.ifCond .eq 26, 3) := by decide +kernel
theorem dX3_setCrew_39 : decode cX3_setCrew 39 = .ok (.iload 4, 2) := by decide +kernel
theorem dX3_setCrew_41 : decode cX3_setCrew 41 = .ok (.iconst 1, 1) := by decide +kernel
theorem dX3_setCrew_42 : decode cX3_setCrew 42 = .ok (.iconst 3, 1) := by decide +kernel
theorem dX3_setCrew_43 : decode cX3_setCrew 43 = .ok (.invokestatic 32, 3) := by decide +kernel
theorem dX3_setCrew_46 : decode cX3_setCrew 46 = .ok (.ifCond .eq 16, 3) := by decide +kernel
theorem dX3_setCrew_49 : decode cX3_setCrew 49 = .ok (.iload 5, 2) := by decide +kernel
theorem dX3_setCrew_51 : decode cX3_setCrew 51 = .ok (.bipush 20, 2) := by decide +kernel
theorem dX3_setCrew_53 : decode cX3_setCrew 53 = .ok (.sipush 400, 3) := by decide +kernel
theorem dX3_setCrew_56 : decode cX3_setCrew 56 = .ok (.invokestatic 32, 3) := by decide +kernel
theorem dX3_setCrew_59 : decode cX3_setCrew 59 = .ok (.ifCond .ne 9, 3) := by decide +kernel
theorem dX3_setCrew_62 : decode cX3_setCrew 62 = .ok (.aload_n 0, 1) := by decide +kernel
theorem dX3_setCrew_63 : decode cX3_setCrew 63 = .ok (.iconst 2, 1) := by decide +kernel
theorem dX3_setCrew_64 : decode cX3_setCrew 64 = .ok (.invokevirtual 36, 3) := by decide +kernel
theorem dX3_setCrew_67 : decode cX3_setCrew 67 = .ok (.ireturn, 1) := by decide +kernel
theorem dX3_setCrew_68 : decode cX3_setCrew 68 = .ok (.aload_n 0, 1) := by decide +kernel
theorem dX3_setCrew_69 : decode cX3_setCrew 69 = .ok (.getfield 40, 3) := by decide +kernel
theorem dX3_setCrew_72 : decode cX3_setCrew 72 = .ok (.ifCond .eq 9, 3) := by decide +kernel
theorem dX3_setCrew_75 : decode cX3_setCrew 75 = .ok (.aload_n 0, 1) := by decide +kernel
theorem dX3_setCrew_76 : decode cX3_setCrew 76 = .ok (.iconst 3, 1) := by decide +kernel
theorem dX3_setCrew_77 : decode cX3_setCrew 77 = .ok (.invokevirtual 36, 3) := by decide +kernel
theorem dX3_setCrew_80 : decode cX3_setCrew 80 = .ok (.ireturn, 1) := by decide +kernel
theorem dX3_setCrew_81 : decode cX3_setCrew 81 = .ok (.aload_n 0, 1) := by decide +kernel
theorem dX3_setCrew_82 : decode cX3_setCrew 82 = .ok (.iload_n 1, 1) := by decide +kernel
theorem dX3_setCrew_83 : decode cX3_setCrew 83 = .ok (.iconst 3, 1) := by decide +kernel
theorem dX3_setCrew_84 : decode cX3_setCrew 84 = .ok (.invokevirtual 56, 3) := by decide +kernel
theorem dX3_setCrew_87 : decode cX3_setCrew 87 = .ok (.istore 6, 2) := by decide +kernel
theorem dX3_setCrew_89 : decode cX3_setCrew 89 = .ok (.iconst 4, 1) := by decide +kernel
theorem dX3_setCrew_90 : decode cX3_setCrew 90 = .ok (.newarray .int, 2) := by decide +kernel
theorem dX3_setCrew_92 : decode cX3_setCrew 92 = .ok (.dup, 1) := by decide +kernel
theorem dX3_setCrew_93 : decode cX3_setCrew 93 = .ok (.iconst 0, 1) := by decide +kernel
theorem dX3_setCrew_94 : decode cX3_setCrew 94 = .ok (.iload_n 2, 1) := by decide +kernel
theorem dX3_setCrew_95 : decode cX3_setCrew 95 = .ok (.iastore, 1) := by decide +kernel
theorem dX3_setCrew_96 : decode cX3_setCrew 96 = .ok (.dup, 1) := by decide +kernel
theorem dX3_setCrew_97 : decode cX3_setCrew 97 = .ok (.iconst 1, 1) := by decide +kernel
theorem dX3_setCrew_98 : decode cX3_setCrew 98 = .ok (.iload_n 3, 1) := by decide +kernel
theorem dX3_setCrew_99 : decode cX3_setCrew 99 = .ok (.iastore, 1) := by decide +kernel
theorem dX3_setCrew_100 : decode cX3_setCrew 100 = .ok (.dup, 1) := by decide +kernel
theorem dX3_setCrew_101 : decode cX3_setCrew 101 = .ok (.iconst 2, 1) := by decide +kernel
theorem dX3_setCrew_102 : decode cX3_setCrew 102 = .ok (.iload 4, 2) := by decide +kernel
theorem dX3_setCrew_104 : decode cX3_setCrew 104 = .ok (.iastore, 1) := by decide +kernel
theorem dX3_setCrew_105 : decode cX3_setCrew 105 = .ok (.dup, 1) := by decide +kernel
theorem dX3_setCrew_106 : decode cX3_setCrew 106 = .ok (.iconst 3, 1) := by decide +kernel
theorem dX3_setCrew_107 : decode cX3_setCrew 107 = .ok (.iload 5, 2) := by decide +kernel
theorem dX3_setCrew_109 : decode cX3_setCrew 109 = .ok (.iastore, 1) := by decide +kernel
theorem dX3_setCrew_110 : decode cX3_setCrew 110 = .ok (.astore 7, 2) := by decide +kernel
theorem dX3_setCrew_112 : decode cX3_setCrew 112 = .ok (.aload 7, 2) := by decide +kernel
theorem dX3_setCrew_114 : decode cX3_setCrew 114 = .ok (.iconst 0, 1) := by decide +kernel
theorem dX3_setCrew_115 : decode cX3_setCrew 115 = .ok (.aload_n 0, 1) := by decide +kernel
theorem dX3_setCrew_116 : decode cX3_setCrew 116 = .ok (.getfield 20, 3) := by decide +kernel
theorem dX3_setCrew_119 : decode cX3_setCrew 119 = .ok (.bipush 29, 2) := by decide +kernel
theorem dX3_setCrew_121 : decode cX3_setCrew 121 = .ok (.iload_n 1, 1) := by decide +kernel
theorem dX3_setCrew_122 : decode cX3_setCrew 122 = .ok (.imul, 1) := by decide +kernel
theorem dX3_setCrew_123 : decode cX3_setCrew 123 = .ok (.iconst 3, 1) := by decide +kernel
theorem dX3_setCrew_124 : decode cX3_setCrew 124 = .ok (.iadd, 1) := by decide +kernel
theorem dX3_setCrew_125 : decode cX3_setCrew 125 = .ok (.iconst 4, 1) := by decide +kernel
theorem dX3_setCrew_126 : decode cX3_setCrew 126 = .ok (.invokestatic 46, 3) := by decide +kernel
theorem dX3_setCrew_129 : decode cX3_setCrew 129 = .ok (.aload_n 0, 1) := by decide +kernel
theorem dX3_setCrew_130 : decode cX3_setCrew 130 = .ok (.iload_n 1, 1) := by decide +kernel
theorem dX3_setCrew_131 : decode cX3_setCrew 131 = .ok (.bipush 11, 2) := by decide +kernel
theorem dX3_setCrew_133 : decode cX3_setCrew 133 = .ok (.iload 5, 2) := by decide +kernel
theorem dX3_setCrew_135 : decode cX3_setCrew 135 = .ok (.invokevirtual 52, 3) := by decide +kernel
theorem dX3_setCrew_138 : decode cX3_setCrew 138 = .ok (.iload 6, 2) := by decide +kernel
theorem dX3_setCrew_140 : decode cX3_setCrew 140 = .ok (.ireturn, 1) := by decide +kernel
theorem dX3_order_0 : decode cX3_order 0 = .ok (.aload_n 0, 1) := by decide +kernel
theorem dX3_order_1 : decode cX3_order 1 = .ok (.iconst 0, 1) := by decide +kernel
theorem dX3_order_2 : decode cX3_order 2 = .ok (.putfield 26, 3) := by decide +kernel
theorem dX3_order_5 : decode cX3_order 5 = .ok (.aload_n 0, 1) := by decide +kernel
theorem dX3_order_6 : decode cX3_order 6 = .ok (.iload_n 1, 1) := by decide +kernel
theorem dX3_order_7 : decode cX3_order 7 = .ok (.invokevirtual 64, 3) := by decide +kernel
theorem dX3_order_10 : decode cX3_order 10 = .ok (.ifCond .ne 9, 3) := by decide +kernel
theorem dX3_order_13 : decode cX3_order 13 = .ok (.aload_n 0, 1) := by decide +kernel
theorem dX3_order_14 : decode cX3_order 14 = .ok (.iconst 1, 1) := by decide +kernel
theorem dX3_order_15 : decode cX3_order 15 = .ok (.invokevirtual 36, 3) := by decide +kernel
theorem dX3_order_18 : decode cX3_order 18 = .ok (.ireturn, 1) := by decide +kernel
theorem dX3_order_19 : decode cX3_order 19 = .ok (.iload_n 2, 1) := by decide +kernel
theorem dX3_order_20 : decode cX3_order 20 = .ok (.iconst 0, 1) := by decide +kernel
theorem dX3_order_21 : decode cX3_order 21 = .ok (.bipush 10, 2) := by decide +kernel
theorem dX3_order_23 : decode cX3_order 23 = .ok (.invokestatic 32, 3) := by decide +kernel
theorem dX3_order_26 : decode cX3_order 26 = .ok (.ifCond .eq 13, 3) := by decide +kernel
theorem dX3_order_29 : decode cX3_order 29 = .ok (.iload_n 3, 1) := by decide +kernel
theorem dX3_order_30 : decode cX3_order 30 = .ok (.iconst 1, 1) := by decide +kernel
theorem dX3_order_31 : decode cX3_order 31 = .ok (.bipush 40, 2) := by decide +kernel
theorem dX3_order_33 : decode cX3_order 33 = .ok (.invokestatic 32, 3) := by decide +kernel
theorem dX3_order_36 : decode cX3_order 36 = .ok (.ifCond .ne 9, 3) := by decide +kernel
theorem dX3_order_39 : decode cX3_order 39 = .ok (.aload_n 0, 1) := by decide +kernel
theorem dX3_order_40 : decode cX3_order 40 = .ok (.iconst 2, 1) := by decide +kernel
theorem dX3_order_41 : decode cX3_order 41 = .ok (.invokevirtual 36, 3) := by decide +kernel
theorem dX3_order_44 : decode cX3_order 44 = .ok (.ireturn, 1) := by decide +kernel
theorem dX3_order_45 : decode cX3_order 45 = .ok (.aload_n 0, 1) := by decide +kernel
theorem dX3_order_46 : decode cX3_order 46 = .ok (.iload_n 1, 1) := by decide +kernel
theorem dX3_order_47 : decode cX3_order 47 = .ok (.bipush 7, 2) := by decide +kernel
theorem dX3_order_49 : decode cX3_order 49 = .ok (.invokevirtual 56, 3) := by decide +kernel
theorem dX3_order_52 : decode cX3_order 52 = .ok (.istore 4, 2) := by decide +kernel
theorem dX3_order_54 : decode cX3_order 54 = .ok (.aload_n 0, 1) := by decide +kernel
theorem dX3_order_55 : decode cX3_order 55 = .ok (.iload_n 1, 1) := by decide +kernel
theorem dX3_order_56 : decode cX3_order 56 = .ok (.bipush 7, 2) := by decide +kernel
theorem dX3_order_58 : decode cX3_order 58 = .ok (.iload_n 2, 1) := by decide +kernel
theorem dX3_order_59 : decode cX3_order 59 = .ok (.invokevirtual 52, 3) := by decide +kernel
theorem dX3_order_62 : decode cX3_order 62 = .ok (.aload_n 0, 1) := by decide +kernel
theorem dX3_order_63 : decode cX3_order 63 = .ok (.iload_n 1, 1) := by decide +kernel
theorem dX3_order_64 : decode cX3_order 64 = .ok (.bipush 8, 2) := by decide +kernel
theorem dX3_order_66 : decode cX3_order 66 = .ok (.iload_n 3, 1) := by decide +kernel
theorem dX3_order_67 : decode cX3_order 67 = .ok (.invokevirtual 52, 3) := by decide +kernel
theorem dX3_order_70 : decode cX3_order 70 = .ok (.iload 4, 2) := by decide +kernel
theorem dX3_order_72 : decode cX3_order 72 = .ok (.ireturn, 1) := by decide +kernel
theorem dX3_isCarried_0 : decode cX3_isCarried 0 = .ok (.iconst 0, 1) := by decide +kernel
theorem dX3_isCarried_1 : decode cX3_isCarried 1 = .ok (.istore_n 3, 1) := by decide +kernel
theorem dX3_isCarried_2 : decode cX3_isCarried 2 = .ok (.iload_n 3, 1) := by decide +kernel
theorem dX3_isCarried_3 : decode cX3_isCarried 3 = .ok (.iconst 3, 1) := by decide +kernel
theorem dX3_isCarried_4 : decode cX3_isCarried 4 = .ok (.if_icmp .ge 24, 3) := by decide +kernel
theorem dX3_isCarried_7 : decode cX3_isCarried 7 = .ok (.aload_n 0, 1) := by decide +kernel
theorem dX3_isCarried_8 : decode cX3_isCarried 8 = .ok (.iload_n 1, 1) := by decide +kernel
theorem dX3_isCarried_9 : decode cX3_isCarried 9 = .ok (.bipush 23, 2) := by decide +kernel
theorem dX3_isCarried_11 : decode cX3_isCarried 11 = .ok (.iload_n 3, 1) := by decide +kernel
theorem dX3_isCarried_12 : decode cX3_isCarried 12 = .ok (.iadd, 1) := by decide +kernel
theorem dX3_isCarried_13 : decode cX3_isCarried 13 = .ok (.invokevirtual 56, 3) := by decide +kernel
theorem dX3_isCarried_16 : decode cX3_isCarried 16 = .ok (.iload_n 2, 1) := by decide +kernel
theorem dX3_isCarried_17 : decode cX3_isCarried 17 = .ok (.if_icmp .ne 5, 3) := by decide +kernel
theorem dX3_isCarried_20 : decode cX3_isCarried 20 = .ok (.iconst 1, 1) := by decide +kernel
theorem dX3_isCarried_21 : decode cX3_isCarried 21 = .ok (.ireturn, 1) := by decide +kernel
theorem dX3_isCarried_22 : decode cX3_isCarried 22 = .ok (.iinc 3 1, 3) := by decide +kernel
theorem dX3_isCarried_25 : decode cX3_isCarried 25 = .ok (.goto (-23), 3) := by decide +kernel
theorem dX3_isCarried_28 : decode cX3_isCarried 28 = .ok (.iconst 0, 1) := by decide +kernel
theorem dX3_isCarried_29 : decode cX3_isCarried 29 = .ok (.ireturn, 1) := by decide +kernel
theorem dX3_where_0 : decode cX3_where 0 = .ok (.aload_n 0, 1) := by decide +kernel
theorem dX3_where_1 : decode cX3_where 1 = .ok (.iload_n 1, 1) := by decide +kernel
theorem dX3_where_2 : decode cX3_where 2 = .ok (.bipush 15, 2) := by decide +kernel
theorem dX3_where_4 : decode cX3_where 4 = .ok (.iload_n 2, 1) := by decide +kernel
theorem dX3_where_5 : decode cX3_where 5 = .ok (.iadd, 1) := by decide +kernel
theorem dX3_where_6 : decode cX3_where 6 = .ok (.invokevirtual 56, 3) := by decide +kernel
theorem dX3_where_9 : decode cX3_where 9 = .ok (.istore_n 3, 1) := by decide +kernel
theorem dX3_where_10 : decode cX3_where 10 = .ok (.aload_n 0, 1) := by decide +kernel
theorem dX3_where_11 : decode cX3_where 11 = .ok (.iload_n 1, 1) := by decide +kernel
theorem dX3_where_12 : decode cX3_where 12 = .ok (.iload_n 2, 1) := by decide +kernel
theorem dX3_where_13 : decode cX3_where 13 = .ok (.invokevirtual 68, 3) := by decide +kernel
theorem dX3_where_16 : decode cX3_where 16 = .ok (.ifCond .eq 7, 3) := by decide +kernel
theorem dX3_where_19 : decode cX3_where 19 = .ok (.iconst 3, 1) := by decide +kernel
theorem dX3_where_20 : decode cX3_where 20 = .ok (.goto 41, 3) := by decide +kernel
theorem dX3_where_23 : decode cX3_where 23 = .ok (.iload_n 3, 1) := by decide +kernel
theorem dX3_where_24 : decode cX3_where 24 = .ok (.aload_n 0, 1) := by decide +kernel
theorem dX3_where_25 : decode cX3_where 25 = .ok (.iload_n 1, 1) := by decide +kernel
theorem dX3_where_26 : decode cX3_where 26 = .ok (.bipush 9, 2) := by decide +kernel
theorem dX3_where_28 : decode cX3_where 28 = .ok (.invokevirtual 56, 3) := by decide +kernel
theorem dX3_where_31 : decode cX3_where 31 = .ok (.if_icmp .le 7, 3) := by decide +kernel
theorem dX3_where_34 : decode cX3_where 34 = .ok (.iconst 2, 1) := by decide +kernel
theorem dX3_where_35 : decode cX3_where 35 = .ok (.goto 26, 3) := by decide +kernel
theorem dX3_where_38 : decode cX3_where 38 = .ok (.iload_n 3, 1) := by decide +kernel
theorem dX3_where_39 : decode cX3_where 39 = .ok (.aload_n 0, 1) := by decide +kernel
theorem dX3_where_40 : decode cX3_where 40 = .ok (.iload_n 1, 1) := by decide +kernel
theorem dX3_where_41 : decode cX3_where 41 = .ok (.bipush 9, 2) := by decide +kernel
theorem dX3_where_43 : decode cX3_where 43 = .ok (.invokevirtual 56, 3) := by decide +kernel
theorem dX3_where_46 : decode cX3_where 46 = .ok (.aload_n 0, 1) := by decide +kernel
theorem dX3_where_47 : decode cX3_where 47 = .ok (.iload_n 1, 1) := by decide +kernel
theorem dX3_where_48 : decode cX3_where 48 = .ok (.iconst 0, 1) := by decide +kernel
theorem dX3_where_49 : decode cX3_where 49 = .ok (.invokevirtual 56, 3) := by decide +kernel
theorem dX3_where_52 : decode cX3_where 52 = .ok (.isub, 1) := by decide +kernel
theorem dX3_where_53 : decode cX3_where 53 = .ok (.if_icmp .ge 7, 3) := by decide +kernel
theorem dX3_where_56 : decode cX3_where 56 = .ok (.iconst 1, 1) := by decide +kernel
theorem dX3_where_57 : decode cX3_where 57 = .ok (.goto 4, 3) := by decide +kernel
theorem dX3_where_60 : decode cX3_where 60 = .ok (.iconst 0, 1) := by decide +kernel
theorem dX3_where_61 : decode cX3_where 61 = .ok (.ireturn, 1) := by decide +kernel
theorem dX3_many_0 : decode cX3_many 0 = .ok (.iconst 0, 1) := by decide +kernel
theorem dX3_many_1 : decode cX3_many 1 = .ok (.istore_n 3, 1) := by decide +kernel
theorem dX3_many_2 : decode cX3_many 2 = .ok (.iconst 0, 1) := by decide +kernel
theorem dX3_many_3 : decode cX3_many 3 = .ok (.istore 4, 2) := by decide +kernel
theorem dX3_many_5 : decode cX3_many 5 = .ok (.iload 4, 2) := by decide +kernel
theorem dX3_many_7 : decode cX3_many 7 = .ok (.aload_n 0, 1) := by decide +kernel
theorem dX3_many_8 : decode cX3_many 8 = .ok (.iload_n 1, 1) := by decide +kernel
theorem dX3_many_9 : decode cX3_many 9 = .ok (.iconst 2, 1) := by decide +kernel
theorem dX3_many_10 : decode cX3_many 10 = .ok (.invokevirtual 56, 3) := by decide +kernel
theorem dX3_many_13 : decode cX3_many 13 = .ok (.if_icmp .ge 28, 3) := by decide +kernel
theorem dX3_many_16 : decode cX3_many 16 = .ok (.iload_n 3, 1) := by decide +kernel
theorem dX3_many_17 : decode cX3_many 17 = .ok (.aload_n 0, 1) := by decide +kernel
theorem dX3_many_18 : decode cX3_many 18 = .ok (.iload_n 1, 1) := by decide +kernel
theorem dX3_many_19 : decode cX3_many 19 = .ok (.iload 4, 2) := by decide +kernel
theorem dX3_many_21 : decode cX3_many 21 = .ok (.invokevirtual 72, 3) := by decide +kernel
theorem dX3_many_24 : decode cX3_many 24 = .ok (.iload_n 2, 1) := by decide +kernel
theorem dX3_many_25 : decode cX3_many 25 = .ok (.if_icmp .ne 7, 3) := by decide +kernel
theorem dX3_many_28 : decode cX3_many 28 = .ok (.iconst 1, 1) := by decide +kernel
theorem dX3_many_29 : decode cX3_many 29 = .ok (.goto 4, 3) := by decide +kernel
theorem dX3_many_32 : decode cX3_many 32 = .ok (.iconst 0, 1) := by decide +kernel
theorem dX3_many_33 : decode cX3_many 33 = .ok (.iadd, 1) := by decide +kernel
theorem dX3_many_34 : decode cX3_many 34 = .ok (.istore_n 3, 1) := by decide +kernel
theorem dX3_many_35 : decode cX3_many 35 = .ok (.iinc 4 1, 3) := by decide +kernel
theorem dX3_many_38 : decode cX3_many 38 = .ok (.goto (-33), 3) := by decide +kernel
theorem dX3_many_41 : decode cX3_many 41 = .ok (.iload_n 3, 1) := by decide +kernel
theorem dX3_many_42 : decode cX3_many 42 = .ok (.ireturn, 1) := by decide +kernel
theorem dX3_pull_0 : decode cX3_pull 0 = .ok (.aload_n 0, 1) := by decide +kernel
theorem dX3_pull_1 : decode cX3_pull 1 = .ok (.iload_n 1, 1) := by decide +kernel
theorem dX3_pull_2 : decode cX3_pull 2 = .ok (.iconst 3, 1) := by decide +kernel
theorem dX3_pull_3 : decode cX3_pull 3 = .ok (.invokevirtual 56, 3) := by decide +kernel
theorem dX3_pull_6 : decode cX3_pull 6 = .ok (.aload_n 0, 1) := by decide +kernel
theorem dX3_pull_7 : decode cX3_pull 7 = .ok (.iload_n 1, 1) := by decide +kernel
theorem dX3_pull_8 : decode cX3_pull 8 = .ok (.iconst 4, 1) := by decide +kernel
theorem dX3_pull_9 : decode cX3_pull 9 = .ok (.invokevirtual 56, 3) := by decide +kernel
theorem dX3_pull_12 : decode cX3_pull 12 = .ok (.imul, 1) := by decide +kernel
theorem dX3_pull_13 : decode cX3_pull 13 = .ok (.aload_n 0, 1) := by decide +kernel
theorem dX3_pull_14 : decode cX3_pull 14 = .ok (.iload_n 1, 1) := by decide +kernel
theorem dX3_pull_15 : decode cX3_pull 15 = .ok (.bipush 7, 2) := by decide +kernel
theorem dX3_pull_17 : decode cX3_pull 17 = .ok (.invokevirtual 56, 3) := by decide +kernel
theorem dX3_pull_20 : decode cX3_pull 20 = .ok (.imul, 1) := by decide +kernel
theorem dX3_pull_21 : decode cX3_pull 21 = .ok (.sipush 500, 3) := by decide +kernel
theorem dX3_pull_24 : decode cX3_pull 24 = .ok (.aload_n 0, 1) := by decide +kernel
theorem dX3_pull_25 : decode cX3_pull 25 = .ok (.iload_n 1, 1) := by decide +kernel
theorem dX3_pull_26 : decode cX3_pull 26 = .ok (.bipush 10, 2) := by decide +kernel
theorem dX3_pull_28 : decode cX3_pull 28 = .ok (.invokevirtual 56, 3) := by decide +kernel
theorem dX3_pull_31 : decode cX3_pull 31 = .ok (.iadd, 1) := by decide +kernel
theorem dX3_pull_32 : decode cX3_pull 32 = .ok (.imul, 1) := by decide +kernel
theorem dX3_pull_33 : decode cX3_pull 33 = .ok (.sipush 5000, 3) := by decide +kernel
theorem dX3_pull_36 : decode cX3_pull 36 = .ok (.idiv, 1) := by decide +kernel
theorem dX3_pull_37 : decode cX3_pull 37 = .ok (.ireturn, 1) := by decide +kernel
theorem dX3_drag_0 : decode cX3_drag 0 = .ok (.aload_n 0, 1) := by decide +kernel
theorem dX3_drag_1 : decode cX3_drag 1 = .ok (.aload_n 0, 1) := by decide +kernel
theorem dX3_drag_2 : decode cX3_drag 2 = .ok (.iload_n 1, 1) := by decide +kernel
theorem dX3_drag_3 : decode cX3_drag 3 = .ok (.bipush 9, 2) := by decide +kernel
theorem dX3_drag_5 : decode cX3_drag 5 = .ok (.invokevirtual 56, 3) := by decide +kernel
theorem dX3_drag_8 : decode cX3_drag 8 = .ok (.invokevirtual 43, 3) := by decide +kernel
theorem dX3_drag_11 : decode cX3_drag 11 = .ok (.istore_n 2, 1) := by decide +kernel
theorem dX3_drag_12 : decode cX3_drag 12 = .ok (.aload_n 0, 1) := by decide +kernel
theorem dX3_drag_13 : decode cX3_drag 13 = .ok (.iload_n 1, 1) := by decide +kernel
theorem dX3_drag_14 : decode cX3_drag 14 = .ok (.iconst 1, 1) := by decide +kernel
theorem dX3_drag_15 : decode cX3_drag 15 = .ok (.invokevirtual 56, 3) := by decide +kernel
theorem dX3_drag_18 : decode cX3_drag 18 = .ok (.istore_n 3, 1) := by decide +kernel
theorem dX3_drag_19 : decode cX3_drag 19 = .ok (.aload_n 0, 1) := by decide +kernel
theorem dX3_drag_20 : decode cX3_drag 20 = .ok (.getfield 16, 3) := by decide +kernel
theorem dX3_drag_23 : decode cX3_drag 23 = .ok (.iconst 3, 1) := by decide +kernel
theorem dX3_drag_24 : decode cX3_drag 24 = .ok (.iload_n 2, 1) := by decide +kernel
theorem dX3_drag_25 : decode cX3_drag 25 = .ok (.imul, 1) := by decide +kernel
theorem dX3_drag_26 : decode cX3_drag 26 = .ok (.iconst 2, 1) := by decide +kernel
theorem dX3_drag_27 : decode cX3_drag 27 = .ok (.iadd, 1) := by decide +kernel
theorem dX3_drag_28 : decode cX3_drag 28 = .ok (.iaload, 1) := by decide +kernel
theorem dX3_drag_29 : decode cX3_drag 29 = .ok (.istore 4, 2) := by decide +kernel
theorem dX3_drag_31 : decode cX3_drag 31 = .ok (.aload_n 0, 1) := by decide +kernel
theorem dX3_drag_32 : decode cX3_drag 32 = .ok (.iload_n 1, 1) := by decide +kernel
theorem dX3_drag_33 : decode cX3_drag 33 = .ok (.iconst 0, 1) := by decide +kernel
theorem dX3_drag_34 : decode cX3_drag 34 = .ok (.invokevirtual 75, 3) := by decide +kernel
theorem dX3_drag_37 : decode cX3_drag 37 = .ok (.istore 5, 2) := by decide +kernel
theorem dX3_drag_39 : decode cX3_drag 39 = .ok (.iconst 0, 1) := by decide +kernel
theorem dX3_drag_40 : decode cX3_drag 40 = .ok (.iload_n 3, 1) := by decide +kernel
theorem dX3_drag_41 : decode cX3_drag 41 = .ok (.bipush 20, 2) := by decide +kernel
theorem dX3_drag_43 : decode cX3_drag 43 = .ok (.bipush 10, 2) := by decide +kernel
theorem dX3_drag_45 : decode cX3_drag 45 = .ok (.aload_n 0, 1) := by decide +kernel
theorem dX3_drag_46 : decode cX3_drag 46 = .ok (.getfield 16, 3) := by decide +kernel
theorem dX3_drag_49 : decode cX3_drag 49 = .ok (.iconst 3, 1) := by decide +kernel
theorem dX3_drag_50 : decode cX3_drag 50 = .ok (.iload_n 2, 1) := by decide +kernel
theorem dX3_drag_51 : decode cX3_drag 51 = .ok (.imul, 1) := by decide +kernel
theorem dX3_drag_52 : decode cX3_drag 52 = .ok (.iconst 1, 1) := by decide +kernel
theorem dX3_drag_53 : decode cX3_drag 53 = .ok (.iadd, 1) := by decide +kernel
theorem dX3_drag_54 : decode cX3_drag 54 = .ok (.iaload, 1) := by decide +kernel
theorem dX3_drag_55 : decode cX3_drag 55 = .ok (.imul, 1) := by decide +kernel
theorem dX3_drag_56 : decode cX3_drag 56 = .ok (.iadd, 1) := by decide +kernel
theorem dX3_drag_57 : decode cX3_drag 57 = .ok (.iconst 4, 1) := by decide +kernel
theorem dX3_drag_58 : decode cX3_drag 58 = .ok (.iload 4, 2) := by decide +kernel
theorem dX3_drag_60 : decode cX3_drag 60 = .ok (.imul, 1) := by decide +kernel
theorem dX3_drag_61 : decode cX3_drag 61 = .ok (.iadd, 1) := by decide +kernel
theorem dX3_drag_62 : decode cX3_drag 62 = .ok (.imul, 1) := by decide +kernel
theorem dX3_drag_63 : decode cX3_drag 63 = .ok (.bipush 10, 2) := by decide +kernel
theorem dX3_drag_65 : decode cX3_drag 65 = .ok (.idiv, 1) := by decide +kernel
theorem dX3_drag_66 : decode cX3_drag 66 = .ok (.invokestatic 78, 3) := by decide +kernel
theorem dX3_drag_69 : decode cX3_drag 69 = .ok (.istore 6, 2) := by decide +kernel
theorem dX3_drag_71 : decode cX3_drag 71 = .ok (.iload_n 3, 1) := by decide +kernel
theorem dX3_drag_72 : decode cX3_drag 72 = .ok (.bipush 10, 2) := by decide +kernel
theorem dX3_drag_74 : decode cX3_drag 74 = .ok (.idiv, 1) := by decide +kernel
theorem dX3_drag_75 : decode cX3_drag 75 = .ok (.iload 6, 2) := by decide +kernel
theorem dX3_drag_77 : decode cX3_drag 77 = .ok (.iconst 4, 1) := by decide +kernel
theorem dX3_drag_78 : decode cX3_drag 78 = .ok (.iload 5, 2) := by decide +kernel
theorem dX3_drag_80 : decode cX3_drag 80 = .ok (.invokestatic 83, 3) := by decide +kernel
theorem dX3_drag_83 : decode cX3_drag 83 = .ok (.iload_n 3, 1) := by decide +kernel
theorem dX3_drag_84 : decode cX3_drag 84 = .ok (.bipush 6, 2) := by decide +kernel
theorem dX3_drag_86 : decode cX3_drag 86 = .ok (.iload 4, 2) := by decide +kernel
theorem dX3_drag_88 : decode cX3_drag 88 = .ok (.iconst 2, 1) := by decide +kernel
theorem dX3_drag_89 : decode cX3_drag 89 = .ok (.idiv, 1) := by decide +kernel
theorem dX3_drag_90 : decode cX3_drag 90 = .ok (.isub, 1) := by decide +kernel
theorem dX3_drag_91 : decode cX3_drag 91 = .ok (.imul, 1) := by decide +kernel
theorem dX3_drag_92 : decode cX3_drag 92 = .ok (.bipush 10, 2) := by decide +kernel
theorem dX3_drag_94 : decode cX3_drag 94 = .ok (.idiv, 1) := by decide +kernel
theorem dX3_drag_95 : decode cX3_drag 95 = .ok (.imul, 1) := by decide +kernel
theorem dX3_drag_96 : decode cX3_drag 96 = .ok (.isub, 1) := by decide +kernel
theorem dX3_drag_97 : decode cX3_drag 97 = .ok (.invokestatic 78, 3) := by decide +kernel
theorem dX3_drag_100 : decode cX3_drag 100 = .ok (.istore 6, 2) := by decide +kernel
theorem dX3_drag_102 : decode cX3_drag 102 = .ok (.iload 5, 2) := by decide +kernel
theorem dX3_drag_104 : decode cX3_drag 104 = .ok (.iconst 2, 1) := by decide +kernel
theorem dX3_drag_105 : decode cX3_drag 105 = .ok (.if_icmp .ge 10, 3) := by decide +kernel
theorem dX3_drag_108 : decode cX3_drag 108 = .ok (.iconst 2, 1) := by decide +kernel
theorem dX3_drag_109 : decode cX3_drag 109 = .ok (.iload 6, 2) := by decide +kernel
theorem dX3_drag_111 : decode cX3_drag 111 = .ok (.imul, 1) := by decide +kernel
theorem dX3_drag_112 : decode cX3_drag 112 = .ok (.goto 5, 3) := by decide +kernel
theorem dX3_drag_115 : decode cX3_drag 115 = .ok (.iload 6, 2) := by decide +kernel
theorem dX3_drag_117 : decode cX3_drag 117 = .ok (.ireturn, 1) := by decide +kernel
theorem dX3_way_0 : decode cX3_way 0 = .ok (.iconst 0, 1) := by decide +kernel
theorem dX3_way_1 : decode cX3_way 1 = .ok (.bipush 12, 2) := by decide +kernel
theorem dX3_way_3 : decode cX3_way 3 = .ok (.aload_n 0, 1) := by decide +kernel
theorem dX3_way_4 : decode cX3_way 4 = .ok (.iload_n 1, 1) := by decide +kernel
theorem dX3_way_5 : decode cX3_way 5 = .ok (.invokevirtual 86, 3) := by decide +kernel
theorem dX3_way_8 : decode cX3_way 8 = .ok (.aload_n 0, 1) := by decide +kernel
theorem dX3_way_9 : decode cX3_way 9 = .ok (.iload_n 1, 1) := by decide +kernel
theorem dX3_way_10 : decode cX3_way 10 = .ok (.invokevirtual 89, 3) := by decide +kernel
theorem dX3_way_13 : decode cX3_way 13 = .ok (.isub, 1) := by decide +kernel
theorem dX3_way_14 : decode cX3_way 14 = .ok (.iconst 4, 1) := by decide +kernel
theorem dX3_way_15 : decode cX3_way 15 = .ok (.imul, 1) := by decide +kernel
theorem dX3_way_16 : decode cX3_way 16 = .ok (.aload_n 0, 1) := by decide +kernel
theorem dX3_way_17 : decode cX3_way 17 = .ok (.iload_n 1, 1) := by decide +kernel
theorem dX3_way_18 : decode cX3_way 18 = .ok (.iconst 1, 1) := by decide +kernel
theorem dX3_way_19 : decode cX3_way 19 = .ok (.invokevirtual 56, 3) := by decide +kernel
theorem dX3_way_22 : decode cX3_way 22 = .ok (.idiv, 1) := by decide +kernel
theorem dX3_way_23 : decode cX3_way 23 = .ok (.invokestatic 83, 3) := by decide +kernel
theorem dX3_way_26 : decode cX3_way 26 = .ok (.invokestatic 78, 3) := by decide +kernel
theorem dX3_way_29 : decode cX3_way 29 = .ok (.ireturn, 1) := by decide +kernel
theorem dX3_roll_0 : decode cX3_roll 0 = .ok (.aload_n 0, 1) := by decide +kernel
theorem dX3_roll_1 : decode cX3_roll 1 = .ok (.iload_n 1, 1) := by decide +kernel
theorem dX3_roll_2 : decode cX3_roll 2 = .ok (.invokevirtual 92, 3) := by decide +kernel
theorem dX3_roll_5 : decode cX3_roll 5 = .ok (.istore_n 2, 1) := by decide +kernel
theorem dX3_roll_6 : decode cX3_roll 6 = .ok (.iconst 0, 1) := by decide +kernel
theorem dX3_roll_7 : decode cX3_roll 7 = .ok (.istore_n 3, 1) := by decide +kernel
theorem dX3_roll_8 : decode cX3_roll 8 = .ok (.iload_n 3, 1) := by decide +kernel
theorem dX3_roll_9 : decode cX3_roll 9 = .ok (.aload_n 0, 1) := by decide +kernel
theorem dX3_roll_10 : decode cX3_roll 10 = .ok (.iload_n 1, 1) := by decide +kernel
theorem dX3_roll_11 : decode cX3_roll 11 = .ok (.iconst 2, 1) := by decide +kernel
theorem dX3_roll_12 : decode cX3_roll 12 = .ok (.invokevirtual 56, 3) := by decide +kernel
theorem dX3_roll_15 : decode cX3_roll 15 = .ok (.if_icmp .ge 40, 3) := by decide +kernel
theorem dX3_roll_18 : decode cX3_roll 18 = .ok (.aload_n 0, 1) := by decide +kernel
theorem dX3_roll_19 : decode cX3_roll 19 = .ok (.iload_n 1, 1) := by decide +kernel
theorem dX3_roll_20 : decode cX3_roll 20 = .ok (.iload_n 3, 1) := by decide +kernel
theorem dX3_roll_21 : decode cX3_roll 21 = .ok (.invokevirtual 72, 3) := by decide +kernel
theorem dX3_roll_24 : decode cX3_roll 24 = .ok (.ifCond .ne 25, 3) := by decide +kernel
theorem dX3_roll_27 : decode cX3_roll 27 = .ok (.aload_n 0, 1) := by decide +kernel
theorem dX3_roll_28 : decode cX3_roll 28 = .ok (.iload_n 1, 1) := by decide +kernel
theorem dX3_roll_29 : decode cX3_roll 29 = .ok (.bipush 15, 2) := by decide +kernel
theorem dX3_roll_31 : decode cX3_roll 31 = .ok (.iload_n 3, 1) := by decide +kernel
theorem dX3_roll_32 : decode cX3_roll 32 = .ok (.iadd, 1) := by decide +kernel
theorem dX3_roll_33 : decode cX3_roll 33 = .ok (.aload_n 0, 1) := by decide +kernel
theorem dX3_roll_34 : decode cX3_roll 34 = .ok (.iload_n 1, 1) := by decide +kernel
theorem dX3_roll_35 : decode cX3_roll 35 = .ok (.bipush 15, 2) := by decide +kernel
theorem dX3_roll_37 : decode cX3_roll 37 = .ok (.iload_n 3, 1) := by decide +kernel
theorem dX3_roll_38 : decode cX3_roll 38 = .ok (.iadd, 1) := by decide +kernel
theorem dX3_roll_39 : decode cX3_roll 39 = .ok (.invokevirtual 56, 3) := by decide +kernel
theorem dX3_roll_42 : decode cX3_roll 42 = .ok (.iload_n 2, 1) := by decide +kernel
theorem dX3_roll_43 : decode cX3_roll 43 = .ok (.iconst 2, 1) := by decide +kernel
theorem dX3_roll_44 : decode cX3_roll 44 = .ok (.idiv, 1) := by decide +kernel
theorem dX3_roll_45 : decode cX3_roll 45 = .ok (.iadd, 1) := by decide +kernel
theorem dX3_roll_46 : decode cX3_roll 46 = .ok (.invokevirtual 52, 3) := by decide +kernel
theorem dX3_roll_49 : decode cX3_roll 49 = .ok (.iinc 3 1, 3) := by decide +kernel
theorem dX3_roll_52 : decode cX3_roll 52 = .ok (.goto (-44), 3) := by decide +kernel
theorem dX3_roll_55 : decode cX3_roll 55 = .ok (.aload_n 0, 1) := by decide +kernel
theorem dX3_roll_56 : decode cX3_roll 56 = .ok (.iload_n 1, 1) := by decide +kernel
theorem dX3_roll_57 : decode cX3_roll 57 = .ok (.bipush 9, 2) := by decide +kernel
theorem dX3_roll_59 : decode cX3_roll 59 = .ok (.aload_n 0, 1) := by decide +kernel
theorem dX3_roll_60 : decode cX3_roll 60 = .ok (.iload_n 1, 1) := by decide +kernel
theorem dX3_roll_61 : decode cX3_roll 61 = .ok (.bipush 9, 2) := by decide +kernel
theorem dX3_roll_63 : decode cX3_roll 63 = .ok (.invokevirtual 56, 3) := by decide +kernel
theorem dX3_roll_66 : decode cX3_roll 66 = .ok (.iload_n 2, 1) := by decide +kernel
theorem dX3_roll_67 : decode cX3_roll 67 = .ok (.iadd, 1) := by decide +kernel
theorem dX3_roll_68 : decode cX3_roll 68 = .ok (.invokevirtual 52, 3) := by decide +kernel
theorem dX3_roll_71 : decode cX3_roll 71 = .ok (.aload_n 0, 1) := by decide +kernel
theorem dX3_roll_72 : decode cX3_roll 72 = .ok (.iload_n 1, 1) := by decide +kernel
theorem dX3_roll_73 : decode cX3_roll 73 = .ok (.bipush 14, 2) := by decide +kernel
theorem dX3_roll_75 : decode cX3_roll 75 = .ok (.iload_n 2, 1) := by decide +kernel
theorem dX3_roll_76 : decode cX3_roll 76 = .ok (.invokevirtual 52, 3) := by decide +kernel
theorem dX3_roll_79 : decode cX3_roll 79 = .ok (.return_, 1) := by decide +kernel
theorem dX3_runner_0 : decode cX3_runner 0 = .ok (.aload_n 0, 1) := by decide +kernel
theorem dX3_runner_1 : decode cX3_runner 1 = .ok (.iload_n 1, 1) := by decide +kernel
theorem dX3_runner_2 : decode cX3_runner 2 = .ok (.bipush 23, 2) := by decide +kernel
theorem dX3_runner_4 : decode cX3_runner 4 = .ok (.iload_n 2, 1) := by decide +kernel
theorem dX3_runner_5 : decode cX3_runner 5 = .ok (.iadd, 1) := by decide +kernel
theorem dX3_runner_6 : decode cX3_runner 6 = .ok (.invokevirtual 56, 3) := by decide +kernel
theorem dX3_runner_9 : decode cX3_runner 9 = .ok (.iconst (-1), 1) := by decide +kernel
theorem dX3_runner_10 : decode cX3_runner 10 = .ok (.if_icmp .eq 79, 3) := by decide +kernel
theorem dX3_runner_13 : decode cX3_runner 13 = .ok (.aload_n 0, 1) := by decide +kernel
theorem dX3_runner_14 : decode cX3_runner 14 = .ok (.iload_n 1, 1) := by decide +kernel
theorem dX3_runner_15 : decode cX3_runner 15 = .ok (.bipush 26, 2) := by decide +kernel
theorem dX3_runner_17 : decode cX3_runner 17 = .ok (.iload_n 2, 1) := by decide +kernel
theorem dX3_runner_18 : decode cX3_runner 18 = .ok (.iadd, 1) := by decide +kernel
theorem dX3_runner_19 : decode cX3_runner 19 = .ok (.aload_n 0, 1) := by decide +kernel
theorem dX3_runner_20 : decode cX3_runner 20 = .ok (.iload_n 1, 1) := by decide +kernel
theorem dX3_runner_21 : decode cX3_runner 21 = .ok (.bipush 26, 2) := by decide +kernel
theorem dX3_runner_23 : decode cX3_runner 23 = .ok (.iload_n 2, 1) := by decide +kernel
theorem dX3_runner_24 : decode cX3_runner 24 = .ok (.iadd, 1) := by decide +kernel
theorem dX3_runner_25 : decode cX3_runner 25 = .ok (.invokevirtual 56, 3) := by decide +kernel
theorem dX3_runner_28 : decode cX3_runner 28 = .ok (.iconst 1, 1) := by decide +kernel
theorem dX3_runner_29 : decode cX3_runner 29 = .ok (.isub, 1) := by decide +kernel
theorem dX3_runner_30 : decode cX3_runner 30 = .ok (.invokevirtual 52, 3) := by decide +kernel
theorem dX3_runner_33 : decode cX3_runner 33 = .ok (.aload_n 0, 1) := by decide +kernel
theorem dX3_runner_34 : decode cX3_runner 34 = .ok (.iload_n 1, 1) := by decide +kernel
theorem dX3_runner_35 : decode cX3_runner 35 = .ok (.bipush 26, 2) := by decide +kernel
theorem dX3_runner_37 : decode cX3_runner 37 = .ok (.iload_n 2, 1) := by decide +kernel
theorem dX3_runner_38 : decode cX3_runner 38 = .ok (.iadd, 1) := by decide +kernel
theorem dX3_runner_39 : decode cX3_runner 39 = .ok (.invokevirtual 56, 3) := by decide +kernel
theorem dX3_runner_42 : decode cX3_runner 42 = .ok (.ifCond .le 4, 3) := by decide +kernel
theorem dX3_runner_45 : decode cX3_runner 45 = .ok (.return_, 1) := by decide +kernel
theorem dX3_runner_46 : decode cX3_runner 46 = .ok (.aload_n 0, 1) := by decide +kernel
theorem dX3_runner_47 : decode cX3_runner 47 = .ok (.iload_n 1, 1) := by decide +kernel
theorem dX3_runner_48 : decode cX3_runner 48 = .ok (.bipush 15, 2) := by decide +kernel
theorem dX3_runner_50 : decode cX3_runner 50 = .ok (.aload_n 0, 1) := by decide +kernel
theorem dX3_runner_51 : decode cX3_runner 51 = .ok (.iload_n 1, 1) := by decide +kernel
theorem dX3_runner_52 : decode cX3_runner 52 = .ok (.bipush 23, 2) := by decide +kernel
theorem dX3_runner_54 : decode cX3_runner 54 = .ok (.iload_n 2, 1) := by decide +kernel
theorem dX3_runner_55 : decode cX3_runner 55 = .ok (.iadd, 1) := by decide +kernel
theorem dX3_runner_56 : decode cX3_runner 56 = .ok (.invokevirtual 56, 3) := by decide +kernel
theorem dX3_runner_59 : decode cX3_runner 59 = .ok (.iadd, 1) := by decide +kernel
theorem dX3_runner_60 : decode cX3_runner 60 = .ok (.aload_n 0, 1) := by decide +kernel
theorem dX3_runner_61 : decode cX3_runner 61 = .ok (.iload_n 1, 1) := by decide +kernel
theorem dX3_runner_62 : decode cX3_runner 62 = .ok (.bipush 9, 2) := by decide +kernel
theorem dX3_runner_64 : decode cX3_runner 64 = .ok (.invokevirtual 56, 3) := by decide +kernel
theorem dX3_runner_67 : decode cX3_runner 67 = .ok (.aload_n 0, 1) := by decide +kernel
theorem dX3_runner_68 : decode cX3_runner 68 = .ok (.iload_n 1, 1) := by decide +kernel
theorem dX3_runner_69 : decode cX3_runner 69 = .ok (.bipush 8, 2) := by decide +kernel
theorem dX3_runner_71 : decode cX3_runner 71 = .ok (.invokevirtual 56, 3) := by decide +kernel
theorem dX3_runner_74 : decode cX3_runner 74 = .ok (.iadd, 1) := by decide +kernel
theorem dX3_runner_75 : decode cX3_runner 75 = .ok (.invokevirtual 52, 3) := by decide +kernel
theorem dX3_runner_78 : decode cX3_runner 78 = .ok (.aload_n 0, 1) := by decide +kernel
theorem dX3_runner_79 : decode cX3_runner 79 = .ok (.iload_n 1, 1) := by decide +kernel
theorem dX3_runner_80 : decode cX3_runner 80 = .ok (.bipush 23, 2) := by decide +kernel
theorem dX3_runner_82 : decode cX3_runner 82 = .ok (.iload_n 2, 1) := by decide +kernel
theorem dX3_runner_83 : decode cX3_runner 83 = .ok (.iadd, 1) := by decide +kernel
theorem dX3_runner_84 : decode cX3_runner 84 = .ok (.iconst (-1), 1) := by decide +kernel
theorem dX3_runner_85 : decode cX3_runner 85 = .ok (.invokevirtual 52, 3) := by decide +kernel
theorem dX3_runner_88 : decode cX3_runner 88 = .ok (.return_, 1) := by decide +kernel
theorem dX3_runner_89 : decode cX3_runner 89 = .ok (.iconst (-1), 1) := by decide +kernel
theorem dX3_runner_90 : decode cX3_runner 90 = .ok (.istore_n 3, 1) := by decide +kernel
theorem dX3_runner_91 : decode cX3_runner 91 = .ok (.aload_n 0, 1) := by decide +kernel
theorem dX3_runner_92 : decode cX3_runner 92 = .ok (.iload_n 1, 1) := by decide +kernel
theorem dX3_runner_93 : decode cX3_runner 93 = .ok (.iconst 2, 1) := by decide +kernel
theorem dX3_runner_94 : decode cX3_runner 94 = .ok (.invokevirtual 56, 3) := by decide +kernel
theorem dX3_runner_97 : decode cX3_runner 97 = .ok (.iconst 1, 1) := by decide +kernel
theorem dX3_runner_98 : decode cX3_runner 98 = .ok (.isub, 1) := by decide +kernel
theorem dX3_runner_99 : decode cX3_runner 99 = .ok (.istore 4, 2) := by decide +kernel
theorem dX3_runner_101 : decode cX3_runner 101 = .ok (.iload 4, 2) := by decide +kernel
theorem dX3_runner_103 : decode cX3_runner 103 = .ok (.ifCond .lt 50, 3) := by decide +kernel
theorem dX3_runner_106 : decode cX3_runner 106 = .ok (.aload_n 0, 1) := by decide +kernel
theorem dX3_runner_107 : decode cX3_runner 107 = .ok (.iload_n 1, 1) := by decide +kernel
theorem dX3_runner_108 : decode cX3_runner 108 = .ok (.iload 4, 2) := by decide +kernel
theorem dX3_runner_110 : decode cX3_runner 110 = .ok (.invokevirtual 72, 3) := by decide +kernel
theorem dX3_runner_113 : decode cX3_runner 113 = .ok (.iconst 1, 1) := by decide +kernel
theorem dX3_runner_114 : decode cX3_runner 114 = .ok (.if_icmp .ne 33, 3) := by decide +kernel
theorem dX3_runner_117 : decode cX3_runner 117 = .ok (.iload_n 3, 1) := by decide +kernel
theorem dX3_runner_118 : decode cX3_runner 118 = .ok (.iconst (-1), 1) := by decide +kernel
theorem dX3_runner_119 : decode cX3_runner 119 = .ok (.if_icmp .eq 25, 3) := by decide +kernel
theorem dX3_runner_122 : decode cX3_runner 122 = .ok (.aload_n 0, 1) := by decide +kernel
theorem dX3_runner_123 : decode cX3_runner 123 = .ok (.iload_n 1, 1) := by decide +kernel
theorem dX3_runner_124 : decode cX3_runner 124 = .ok (.bipush 15, 2) := by decide +kernel
theorem dX3_runner_126 : decode cX3_runner 126 = .ok (.iload 4, 2) := by decide +kernel
theorem dX3_runner_128 : decode cX3_runner 128 = .ok (.iadd, 1) := by decide +kernel
theorem dX3_runner_129 : decode cX3_runner 129 = .ok (.invokevirtual 56, 3) := by decide +kernel
theorem dX3_runner_132 : decode cX3_runner 132 = .ok (.aload_n 0, 1) := by decide +kernel
theorem dX3_runner_133 : decode cX3_runner 133 = .ok (.iload_n 1, 1) := by decide +kernel
theorem dX3_runner_134 : decode cX3_runner 134 = .ok (.bipush 15, 2) := by decide +kernel
theorem dX3_runner_136 : decode cX3_runner 136 = .ok (.iload_n 3, 1) := by decide +kernel
theorem dX3_runner_137 : decode cX3_runner 137 = .ok (.iadd, 1) := by decide +kernel
theorem dX3_runner_138 : decode cX3_runner 138 = .ok (.invokevirtual 56, 3) := by decide +kernel
theorem dX3_runner_141 : decode cX3_runner 141 = .ok (.if_icmp .gt 6, 3) := by decide +kernel
theorem dX3_runner_144 : decode cX3_runner 144 = .ok (.iload 4, 2) := by decide +kernel
theorem dX3_runner_146 : decode cX3_runner 146 = .ok (.istore_n 3, 1) := by decide +kernel
theorem dX3_runner_147 : decode cX3_runner 147 = .ok (.iinc 4 (-1), 3) := by decide +kernel
theorem dX3_runner_150 : decode cX3_runner 150 = .ok (.goto (-49), 3) := by decide +kernel
theorem dX3_runner_153 : decode cX3_runner 153 = .ok (.iload_n 3, 1) := by decide +kernel
theorem dX3_runner_154 : decode cX3_runner 154 = .ok (.iconst (-1), 1) := by decide +kernel
theorem dX3_runner_155 : decode cX3_runner 155 = .ok (.if_icmp .ne 4, 3) := by decide +kernel
theorem dX3_runner_158 : decode cX3_runner 158 = .ok (.return_, 1) := by decide +kernel
theorem dX3_runner_159 : decode cX3_runner 159 = .ok (.aload_n 0, 1) := by decide +kernel
theorem dX3_runner_160 : decode cX3_runner 160 = .ok (.iload_n 1, 1) := by decide +kernel
theorem dX3_runner_161 : decode cX3_runner 161 = .ok (.bipush 23, 2) := by decide +kernel
theorem dX3_runner_163 : decode cX3_runner 163 = .ok (.iload_n 2, 1) := by decide +kernel
theorem dX3_runner_164 : decode cX3_runner 164 = .ok (.iadd, 1) := by decide +kernel
theorem dX3_runner_165 : decode cX3_runner 165 = .ok (.iload_n 3, 1) := by decide +kernel
theorem dX3_runner_166 : decode cX3_runner 166 = .ok (.invokevirtual 52, 3) := by decide +kernel
theorem dX3_runner_169 : decode cX3_runner 169 = .ok (.aload_n 0, 1) := by decide +kernel
theorem dX3_runner_170 : decode cX3_runner 170 = .ok (.iload_n 1, 1) := by decide +kernel
theorem dX3_runner_171 : decode cX3_runner 171 = .ok (.bipush 26, 2) := by decide +kernel
theorem dX3_runner_173 : decode cX3_runner 173 = .ok (.iload_n 2, 1) := by decide +kernel
theorem dX3_runner_174 : decode cX3_runner 174 = .ok (.iadd, 1) := by decide +kernel
theorem dX3_runner_175 : decode cX3_runner 175 = .ok (.aload_n 0, 1) := by decide +kernel
theorem dX3_runner_176 : decode cX3_runner 176 = .ok (.iload_n 1, 1) := by decide +kernel
theorem dX3_runner_177 : decode cX3_runner 177 = .ok (.bipush 9, 2) := by decide +kernel
theorem dX3_runner_179 : decode cX3_runner 179 = .ok (.invokevirtual 56, 3) := by decide +kernel
theorem dX3_runner_182 : decode cX3_runner 182 = .ok (.aload_n 0, 1) := by decide +kernel
theorem dX3_runner_183 : decode cX3_runner 183 = .ok (.iload_n 1, 1) := by decide +kernel
theorem dX3_runner_184 : decode cX3_runner 184 = .ok (.bipush 8, 2) := by decide +kernel
theorem dX3_runner_186 : decode cX3_runner 186 = .ok (.invokevirtual 56, 3) := by decide +kernel
theorem dX3_runner_189 : decode cX3_runner 189 = .ok (.iadd, 1) := by decide +kernel
theorem dX3_runner_190 : decode cX3_runner 190 = .ok (.aload_n 0, 1) := by decide +kernel
theorem dX3_runner_191 : decode cX3_runner 191 = .ok (.iload_n 1, 1) := by decide +kernel
theorem dX3_runner_192 : decode cX3_runner 192 = .ok (.bipush 15, 2) := by decide +kernel
theorem dX3_runner_194 : decode cX3_runner 194 = .ok (.iload_n 3, 1) := by decide +kernel
theorem dX3_runner_195 : decode cX3_runner 195 = .ok (.iadd, 1) := by decide +kernel
theorem dX3_runner_196 : decode cX3_runner 196 = .ok (.invokevirtual 56, 3) := by decide +kernel
theorem dX3_runner_199 : decode cX3_runner 199 = .ok (.isub, 1) := by decide +kernel
theorem dX3_runner_200 : decode cX3_runner 200 = .ok (.bipush 12, 2) := by decide +kernel
theorem dX3_runner_202 : decode cX3_runner 202 = .ok (.idiv, 1) := by decide +kernel
theorem dX3_runner_203 : decode cX3_runner 203 = .ok (.iconst 2, 1) := by decide +kernel
theorem dX3_runner_204 : decode cX3_runner 204 = .ok (.iadd, 1) := by decide +kernel
theorem dX3_runner_205 : decode cX3_runner 205 = .ok (.invokevirtual 52, 3) := by decide +kernel
theorem dX3_runner_208 : decode cX3_runner 208 = .ok (.return_, 1) := by decide +kernel
theorem dX3_breathe_0 : decode cX3_breathe 0 = .ok (.aload_n 0, 1) := by decide +kernel
theorem dX3_breathe_1 : decode cX3_breathe 1 = .ok (.iload_n 1, 1) := by decide +kernel
theorem dX3_breathe_2 : decode cX3_breathe 2 = .ok (.bipush 10, 2) := by decide +kernel
theorem dX3_breathe_4 : decode cX3_breathe 4 = .ok (.iconst 0, 1) := by decide +kernel
theorem dX3_breathe_5 : decode cX3_breathe 5 = .ok (.sipush 1000, 3) := by decide +kernel
theorem dX3_breathe_8 : decode cX3_breathe 8 = .ok (.aload_n 0, 1) := by decide +kernel
theorem dX3_breathe_9 : decode cX3_breathe 9 = .ok (.iload_n 1, 1) := by decide +kernel
theorem dX3_breathe_10 : decode cX3_breathe 10 = .ok (.bipush 10, 2) := by decide +kernel
theorem dX3_breathe_12 : decode cX3_breathe 12 = .ok (.invokevirtual 56, 3) := by decide +kernel
theorem dX3_breathe_15 : decode cX3_breathe 15 = .ok (.iload_n 2, 1) := by decide +kernel
theorem dX3_breathe_16 : decode cX3_breathe 16 = .ok (.iload_n 2, 1) := by decide +kernel
theorem dX3_breathe_17 : decode cX3_breathe 17 = .ok (.imul, 1) := by decide +kernel
theorem dX3_breathe_18 : decode cX3_breathe 18 = .ok (.iconst 2, 1) := by decide +kernel
theorem dX3_breathe_19 : decode cX3_breathe 19 = .ok (.idiv, 1) := by decide +kernel
theorem dX3_breathe_20 : decode cX3_breathe 20 = .ok (.isub, 1) := by decide +kernel
theorem dX3_breathe_21 : decode cX3_breathe 21 = .ok (.bipush 18, 2) := by decide +kernel
theorem dX3_breathe_23 : decode cX3_breathe 23 = .ok (.iadd, 1) := by decide +kernel
theorem dX3_breathe_24 : decode cX3_breathe 24 = .ok (.invokestatic 83, 3) := by decide +kernel
theorem dX3_breathe_27 : decode cX3_breathe 27 = .ok (.invokestatic 78, 3) := by decide +kernel
theorem dX3_breathe_30 : decode cX3_breathe 30 = .ok (.invokevirtual 52, 3) := by decide +kernel
theorem dX3_breathe_33 : decode cX3_breathe 33 = .ok (.return_, 1) := by decide +kernel
theorem dX3_tickOf_0 : decode cX3_tickOf 0 = .ok (.aload_n 0, 1) := by decide +kernel
theorem dX3_tickOf_1 : decode cX3_tickOf 1 = .ok (.iload_n 1, 1) := by decide +kernel
theorem dX3_tickOf_2 : decode cX3_tickOf 2 = .ok (.bipush 13, 2) := by decide +kernel
theorem dX3_tickOf_4 : decode cX3_tickOf 4 = .ok (.invokevirtual 56, 3) := by decide +kernel
theorem dX3_tickOf_7 : decode cX3_tickOf 7 = .ok (.iconst (-1), 1) := by decide +kernel
theorem dX3_tickOf_8 : decode cX3_tickOf 8 = .ok (.if_icmp .eq 4, 3) := by decide +kernel
theorem dX3_tickOf_11 : decode cX3_tickOf 11 = .ok (.return_, 1) := by decide +kernel
theorem dX3_tickOf_12 : decode cX3_tickOf 12 = .ok (.aload_n 0, 1) := by decide +kernel
theorem dX3_tickOf_13 : decode cX3_tickOf 13 = .ok (.iload_n 1, 1) := by decide +kernel
theorem dX3_tickOf_14 : decode cX3_tickOf 14 = .ok (.bipush 12, 2) := by decide +kernel
theorem dX3_tickOf_16 : decode cX3_tickOf 16 = .ok (.invokevirtual 56, 3) := by decide +kernel
theorem dX3_tickOf_19 : decode cX3_tickOf 19 = .ok (.ifCond .ne 67, 3) := by decide +kernel
theorem dX3_tickOf_22 : decode cX3_tickOf 22 = .ok (.aload_n 0, 1) := by decide +kernel
theorem dX3_tickOf_23 : decode cX3_tickOf 23 = .ok (.iload_n 1, 1) := by decide +kernel
theorem dX3_tickOf_24 : decode cX3_tickOf 24 = .ok (.invokevirtual 86, 3) := by decide +kernel
theorem dX3_tickOf_27 : decode cX3_tickOf 27 = .ok (.aload_n 0, 1) := by decide +kernel
theorem dX3_tickOf_28 : decode cX3_tickOf 28 = .ok (.iload_n 1, 1) := by decide +kernel
theorem dX3_tickOf_29 : decode cX3_tickOf 29 = .ok (.bipush 11, 2) := by decide +kernel
theorem dX3_tickOf_31 : decode cX3_tickOf 31 = .ok (.invokevirtual 56, 3) := by decide +kernel
theorem dX3_tickOf_34 : decode cX3_tickOf 34 = .ok (.if_icmp .le 52, 3) := by decide +kernel
theorem dX3_tickOf_37 : decode cX3_tickOf 37 = .ok (.aload_n 0, 1) := by decide +kernel
theorem dX3_tickOf_38 : decode cX3_tickOf 38 = .ok (.iload_n 1, 1) := by decide +kernel
theorem dX3_tickOf_39 : decode cX3_tickOf 39 = .ok (.bipush 11, 2) := by decide +kernel
theorem dX3_tickOf_41 : decode cX3_tickOf 41 = .ok (.bipush 10, 2) := by decide +kernel
theorem dX3_tickOf_43 : decode cX3_tickOf 43 = .ok (.aload_n 0, 1) := by decide +kernel
theorem dX3_tickOf_44 : decode cX3_tickOf 44 = .ok (.iload_n 1, 1) := by decide +kernel
theorem dX3_tickOf_45 : decode cX3_tickOf 45 = .ok (.bipush 11, 2) := by decide +kernel
theorem dX3_tickOf_47 : decode cX3_tickOf 47 = .ok (.invokevirtual 56, 3) := by decide +kernel
theorem dX3_tickOf_50 : decode cX3_tickOf 50 = .ok (.aload_n 0, 1) := by decide +kernel
theorem dX3_tickOf_51 : decode cX3_tickOf 51 = .ok (.iload_n 1, 1) := by decide +kernel
theorem dX3_tickOf_52 : decode cX3_tickOf 52 = .ok (.bipush 11, 2) := by decide +kernel
theorem dX3_tickOf_54 : decode cX3_tickOf 54 = .ok (.invokevirtual 56, 3) := by decide +kernel
theorem dX3_tickOf_57 : decode cX3_tickOf 57 = .ok (.bipush 10, 2) := by decide +kernel
theorem dX3_tickOf_59 : decode cX3_tickOf 59 = .ok (.idiv, 1) := by decide +kernel
theorem dX3_tickOf_60 : decode cX3_tickOf 60 = .ok (.isub, 1) := by decide +kernel
theorem dX3_tickOf_61 : decode cX3_tickOf 61 = .ok (.invokestatic 78, 3) := by decide +kernel
theorem dX3_tickOf_64 : decode cX3_tickOf 64 = .ok (.invokevirtual 52, 3) := by decide +kernel
theorem dX3_tickOf_67 : decode cX3_tickOf 67 = .ok (.aload_n 0, 1) := by decide +kernel
theorem dX3_tickOf_68 : decode cX3_tickOf 68 = .ok (.iload_n 1, 1) := by decide +kernel
theorem dX3_tickOf_69 : decode cX3_tickOf 69 = .ok (.bipush 12, 2) := by decide +kernel
theorem dX3_tickOf_71 : decode cX3_tickOf 71 = .ok (.bipush 15, 2) := by decide +kernel
theorem dX3_tickOf_73 : decode cX3_tickOf 73 = .ok (.invokevirtual 52, 3) := by decide +kernel
theorem dX3_tickOf_76 : decode cX3_tickOf 76 = .ok (.aload_n 0, 1) := by decide +kernel
theorem dX3_tickOf_77 : decode cX3_tickOf 77 = .ok (.dup, 1) := by decide +kernel
theorem dX3_tickOf_78 : decode cX3_tickOf 78 = .ok (.getfield 95, 3) := by decide +kernel
theorem dX3_tickOf_81 : decode cX3_tickOf 81 = .ok (.iconst 1, 1) := by decide +kernel
theorem dX3_tickOf_82 : decode cX3_tickOf 82 = .ok (.iadd, 1) := by decide +kernel
theorem dX3_tickOf_83 : decode cX3_tickOf 83 = .ok (.putfield 95, 3) := by decide +kernel
theorem dX3_tickOf_86 : decode cX3_tickOf 86 = .ok (.aload_n 0, 1) := by decide +kernel
theorem dX3_tickOf_87 : decode cX3_tickOf 87 = .ok (.iload_n 1, 1) := by decide +kernel
theorem dX3_tickOf_88 : decode cX3_tickOf 88 = .ok (.bipush 12, 2) := by decide +kernel
theorem dX3_tickOf_90 : decode cX3_tickOf 90 = .ok (.invokevirtual 56, 3) := by decide +kernel
theorem dX3_tickOf_93 : decode cX3_tickOf 93 = .ok (.ifCond .le 34, 3) := by decide +kernel
theorem dX3_tickOf_96 : decode cX3_tickOf 96 = .ok (.aload_n 0, 1) := by decide +kernel
theorem dX3_tickOf_97 : decode cX3_tickOf 97 = .ok (.iload_n 1, 1) := by decide +kernel
theorem dX3_tickOf_98 : decode cX3_tickOf 98 = .ok (.bipush 12, 2) := by decide +kernel
theorem dX3_tickOf_100 : decode cX3_tickOf 100 = .ok (.aload_n 0, 1) := by decide +kernel
theorem dX3_tickOf_101 : decode cX3_tickOf 101 = .ok (.iload_n 1, 1) := by decide +kernel
theorem dX3_tickOf_102 : decode cX3_tickOf 102 = .ok (.bipush 12, 2) := by decide +kernel
theorem dX3_tickOf_104 : decode cX3_tickOf 104 = .ok (.invokevirtual 56, 3) := by decide +kernel
theorem dX3_tickOf_107 : decode cX3_tickOf 107 = .ok (.iconst 1, 1) := by decide +kernel
theorem dX3_tickOf_108 : decode cX3_tickOf 108 = .ok (.isub, 1) := by decide +kernel
theorem dX3_tickOf_109 : decode cX3_tickOf 109 = .ok (.invokevirtual 52, 3) := by decide +kernel
theorem dX3_tickOf_112 : decode cX3_tickOf 112 = .ok (.aload_n 0, 1) := by decide +kernel
theorem dX3_tickOf_113 : decode cX3_tickOf 113 = .ok (.iload_n 1, 1) := by decide +kernel
theorem dX3_tickOf_114 : decode cX3_tickOf 114 = .ok (.bipush 14, 2) := by decide +kernel
theorem dX3_tickOf_116 : decode cX3_tickOf 116 = .ok (.iconst 0, 1) := by decide +kernel
theorem dX3_tickOf_117 : decode cX3_tickOf 117 = .ok (.invokevirtual 52, 3) := by decide +kernel
theorem dX3_tickOf_120 : decode cX3_tickOf 120 = .ok (.aload_n 0, 1) := by decide +kernel
theorem dX3_tickOf_121 : decode cX3_tickOf 121 = .ok (.iload_n 1, 1) := by decide +kernel
theorem dX3_tickOf_122 : decode cX3_tickOf 122 = .ok (.iconst 0, 1) := by decide +kernel
theorem dX3_tickOf_123 : decode cX3_tickOf 123 = .ok (.invokevirtual 98, 3) := by decide +kernel
theorem dX3_tickOf_126 : decode cX3_tickOf 126 = .ok (.return_, 1) := by decide +kernel
theorem dX3_tickOf_127 : decode cX3_tickOf 127 = .ok (.aload_n 0, 1) := by decide +kernel
theorem dX3_tickOf_128 : decode cX3_tickOf 128 = .ok (.iload_n 1, 1) := by decide +kernel
theorem dX3_tickOf_129 : decode cX3_tickOf 129 = .ok (.invokevirtual 102, 3) := by decide +kernel
theorem dX3_tickOf_132 : decode cX3_tickOf 132 = .ok (.iconst 0, 1) := by decide +kernel
theorem dX3_tickOf_133 : decode cX3_tickOf 133 = .ok (.istore_n 2, 1) := by decide +kernel
theorem dX3_tickOf_134 : decode cX3_tickOf 134 = .ok (.iload_n 2, 1) := by decide +kernel
theorem dX3_tickOf_135 : decode cX3_tickOf 135 = .ok (.aload_n 0, 1) := by decide +kernel
theorem dX3_tickOf_136 : decode cX3_tickOf 136 = .ok (.iload_n 1, 1) := by decide +kernel
theorem dX3_tickOf_137 : decode cX3_tickOf 137 = .ok (.iconst 5, 1) := by decide +kernel
theorem dX3_tickOf_138 : decode cX3_tickOf 138 = .ok (.invokevirtual 56, 3) := by decide +kernel
theorem dX3_tickOf_141 : decode cX3_tickOf 141 = .ok (.if_icmp .ge 15, 3) := by decide +kernel
theorem dX3_tickOf_144 : decode cX3_tickOf 144 = .ok (.aload_n 0, 1) := by decide +kernel
theorem dX3_tickOf_145 : decode cX3_tickOf 145 = .ok (.iload_n 1, 1) := by decide +kernel
theorem dX3_tickOf_146 : decode cX3_tickOf 146 = .ok (.iload_n 2, 1) := by decide +kernel
theorem dX3_tickOf_147 : decode cX3_tickOf 147 = .ok (.invokevirtual 105, 3) := by decide +kernel
theorem dX3_tickOf_150 : decode cX3_tickOf 150 = .ok (.iinc 2 1, 3) := by decide +kernel
theorem dX3_tickOf_153 : decode cX3_tickOf 153 = .ok (.goto (-19), 3) := by decide +kernel
theorem dX3_tickOf_156 : decode cX3_tickOf 156 = .ok (.aload_n 0, 1) := by decide +kernel
theorem dX3_tickOf_157 : decode cX3_tickOf 157 = .ok (.iload_n 1, 1) := by decide +kernel
theorem dX3_tickOf_158 : decode cX3_tickOf 158 = .ok (.aload_n 0, 1) := by decide +kernel
theorem dX3_tickOf_159 : decode cX3_tickOf 159 = .ok (.iload_n 1, 1) := by decide +kernel
theorem dX3_tickOf_160 : decode cX3_tickOf 160 = .ok (.bipush 7, 2) := by decide +kernel
theorem dX3_tickOf_162 : decode cX3_tickOf 162 = .ok (.invokevirtual 56, 3) := by decide +kernel
theorem dX3_tickOf_165 : decode cX3_tickOf 165 = .ok (.invokevirtual 98, 3) := by decide +kernel
theorem dX3_tickOf_168 : decode cX3_tickOf 168 = .ok (.aload_n 0, 1) := by decide +kernel
theorem dX3_tickOf_169 : decode cX3_tickOf 169 = .ok (.iload_n 1, 1) := by decide +kernel
theorem dX3_tickOf_170 : decode cX3_tickOf 170 = .ok (.bipush 9, 2) := by decide +kernel
theorem dX3_tickOf_172 : decode cX3_tickOf 172 = .ok (.invokevirtual 56, 3) := by decide +kernel
theorem dX3_tickOf_175 : decode cX3_tickOf 175 = .ok (.aload_n 0, 1) := by decide +kernel
theorem dX3_tickOf_176 : decode cX3_tickOf 176 = .ok (.getfield 9, 3) := by decide +kernel
theorem dX3_tickOf_179 : decode cX3_tickOf 179 = .ok (.if_icmp .lt 14, 3) := by decide +kernel
theorem dX3_tickOf_182 : decode cX3_tickOf 182 = .ok (.aload_n 0, 1) := by decide +kernel
theorem dX3_tickOf_183 : decode cX3_tickOf 183 = .ok (.iload_n 1, 1) := by decide +kernel
theorem dX3_tickOf_184 : decode cX3_tickOf 184 = .ok (.bipush 13, 2) := by decide +kernel
theorem dX3_tickOf_186 : decode cX3_tickOf 186 = .ok (.aload_n 0, 1) := by decide +kernel
theorem dX3_tickOf_187 : decode cX3_tickOf 187 = .ok (.getfield 40, 3) := by decide +kernel
theorem dX3_tickOf_190 : decode cX3_tickOf 190 = .ok (.invokevirtual 52, 3) := by decide +kernel
theorem dX3_tickOf_193 : decode cX3_tickOf 193 = .ok (.return_, 1) := by decide +kernel
theorem dX3_tickOn_0 : decode cX3_tickOn 0 = .ok (.aload_n 0, 1) := by decide +kernel
theorem dX3_tickOn_1 : decode cX3_tickOn 1 = .ok (.dup, 1) := by decide +kernel
theorem dX3_tickOn_2 : decode cX3_tickOn 2 = .ok (.getfield 40, 3) := by decide +kernel
theorem dX3_tickOn_5 : decode cX3_tickOn 5 = .ok (.iconst 1, 1) := by decide +kernel
theorem dX3_tickOn_6 : decode cX3_tickOn 6 = .ok (.iadd, 1) := by decide +kernel
theorem dX3_tickOn_7 : decode cX3_tickOn 7 = .ok (.putfield 40, 3) := by decide +kernel
theorem dX3_tickOn_10 : decode cX3_tickOn 10 = .ok (.iconst 0, 1) := by decide +kernel
theorem dX3_tickOn_11 : decode cX3_tickOn 11 = .ok (.istore_n 1, 1) := by decide +kernel
theorem dX3_tickOn_12 : decode cX3_tickOn 12 = .ok (.iload_n 1, 1) := by decide +kernel
theorem dX3_tickOn_13 : decode cX3_tickOn 13 = .ok (.aload_n 0, 1) := by decide +kernel
theorem dX3_tickOn_14 : decode cX3_tickOn 14 = .ok (.getfield 29, 3) := by decide +kernel
theorem dX3_tickOn_17 : decode cX3_tickOn 17 = .ok (.if_icmp .ge 14, 3) := by decide +kernel
theorem dX3_tickOn_20 : decode cX3_tickOn 20 = .ok (.aload_n 0, 1) := by decide +kernel
theorem dX3_tickOn_21 : decode cX3_tickOn 21 = .ok (.iload_n 1, 1) := by decide +kernel
theorem dX3_tickOn_22 : decode cX3_tickOn 22 = .ok (.invokevirtual 108, 3) := by decide +kernel
theorem dX3_tickOn_25 : decode cX3_tickOn 25 = .ok (.iinc 1 1, 3) := by decide +kernel
theorem dX3_tickOn_28 : decode cX3_tickOn 28 = .ok (.goto (-16), 3) := by decide +kernel
theorem dX3_tickOn_31 : decode cX3_tickOn 31 = .ok (.return_, 1) := by decide +kernel
theorem dX3_ended_0 : decode cX3_ended 0 = .ok (.iconst 0, 1) := by decide +kernel
theorem dX3_ended_1 : decode cX3_ended 1 = .ok (.istore_n 1, 1) := by decide +kernel
theorem dX3_ended_2 : decode cX3_ended 2 = .ok (.iconst 0, 1) := by decide +kernel
theorem dX3_ended_3 : decode cX3_ended 3 = .ok (.istore_n 2, 1) := by decide +kernel
theorem dX3_ended_4 : decode cX3_ended 4 = .ok (.iload_n 2, 1) := by decide +kernel
theorem dX3_ended_5 : decode cX3_ended 5 = .ok (.aload_n 0, 1) := by decide +kernel
theorem dX3_ended_6 : decode cX3_ended 6 = .ok (.getfield 29, 3) := by decide +kernel
theorem dX3_ended_9 : decode cX3_ended 9 = .ok (.if_icmp .ge 28, 3) := by decide +kernel
theorem dX3_ended_12 : decode cX3_ended 12 = .ok (.iload_n 1, 1) := by decide +kernel
theorem dX3_ended_13 : decode cX3_ended 13 = .ok (.aload_n 0, 1) := by decide +kernel
theorem dX3_ended_14 : decode cX3_ended 14 = .ok (.iload_n 2, 1) := by decide +kernel
theorem dX3_ended_15 : decode cX3_ended 15 = .ok (.bipush 13, 2) := by decide +kernel
theorem dX3_ended_17 : decode cX3_ended 17 = .ok (.invokevirtual 56, 3) := by decide +kernel
theorem dX3_ended_20 : decode cX3_ended 20 = .ok (.iconst (-1), 1) := by decide +kernel
theorem dX3_ended_21 : decode cX3_ended 21 = .ok (.if_icmp .eq 7, 3) := by decide +kernel
theorem dX3_ended_24 : decode cX3_ended 24 = .ok (.iconst 1, 1) := by decide +kernel
theorem dX3_ended_25 : decode cX3_ended 25 = .ok (.goto 4, 3) := by decide +kernel
theorem dX3_ended_28 : decode cX3_ended 28 = .ok (.iconst 0, 1) := by decide +kernel
theorem dX3_ended_29 : decode cX3_ended 29 = .ok (.iadd, 1) := by decide +kernel
theorem dX3_ended_30 : decode cX3_ended 30 = .ok (.istore_n 1, 1) := by decide +kernel
theorem dX3_ended_31 : decode cX3_ended 31 = .ok (.iinc 2 1, 3) := by decide +kernel
theorem dX3_ended_34 : decode cX3_ended 34 = .ok (.goto (-30), 3) := by decide +kernel
theorem dX3_ended_37 : decode cX3_ended 37 = .ok (.iload_n 1, 1) := by decide +kernel
theorem dX3_ended_38 : decode cX3_ended 38 = .ok (.ireturn, 1) := by decide +kernel
theorem dX3_run_0 : decode cX3_run 0 = .ok (.aload_n 0, 1) := by decide +kernel
theorem dX3_run_1 : decode cX3_run 1 = .ok (.iconst 0, 1) := by decide +kernel
theorem dX3_run_2 : decode cX3_run 2 = .ok (.putfield 26, 3) := by decide +kernel
theorem dX3_run_5 : decode cX3_run 5 = .ok (.iload_n 1, 1) := by decide +kernel
theorem dX3_run_6 : decode cX3_run 6 = .ok (.iconst 1, 1) := by decide +kernel
theorem dX3_run_7 : decode cX3_run 7 = .ok (.sipush 500, 3) := by decide +kernel
theorem dX3_run_10 : decode cX3_run 10 = .ok (.invokestatic 32, 3) := by decide +kernel
theorem dX3_run_13 : decode cX3_run 13 = .ok (.ifCond .ne 9, 3) := by decide +kernel
theorem dX3_run_16 : decode cX3_run 16 = .ok (.aload_n 0, 1) := by decide +kernel
theorem dX3_run_17 : decode cX3_run 17 = .ok (.iconst 1, 1) := by decide +kernel
theorem dX3_run_18 : decode cX3_run 18 = .ok (.invokevirtual 36, 3) := by decide +kernel
theorem dX3_run_21 : decode cX3_run 21 = .ok (.ireturn, 1) := by decide +kernel
theorem dX3_run_22 : decode cX3_run 22 = .ok (.aload_n 0, 1) := by decide +kernel
theorem dX3_run_23 : decode cX3_run 23 = .ok (.getfield 29, 3) := by decide +kernel
theorem dX3_run_26 : decode cX3_run 26 = .ok (.ifCond .ne 9, 3) := by decide +kernel
theorem dX3_run_29 : decode cX3_run 29 = .ok (.aload_n 0, 1) := by decide +kernel
theorem dX3_run_30 : decode cX3_run 30 = .ok (.iconst 2, 1) := by decide +kernel
theorem dX3_run_31 : decode cX3_run 31 = .ok (.invokevirtual 36, 3) := by decide +kernel
theorem dX3_run_34 : decode cX3_run 34 = .ok (.ireturn, 1) := by decide +kernel
theorem dX3_run_35 : decode cX3_run 35 = .ok (.iconst 0, 1) := by decide +kernel
theorem dX3_run_36 : decode cX3_run 36 = .ok (.istore_n 2, 1) := by decide +kernel
theorem dX3_run_37 : decode cX3_run 37 = .ok (.iload_n 2, 1) := by decide +kernel
theorem dX3_run_38 : decode cX3_run 38 = .ok (.iload_n 1, 1) := by decide +kernel
theorem dX3_run_39 : decode cX3_run 39 = .ok (.if_icmp .ge 13, 3) := by decide +kernel
theorem dX3_run_42 : decode cX3_run 42 = .ok (.aload_n 0, 1) := by decide +kernel
theorem dX3_run_43 : decode cX3_run 43 = .ok (.invokevirtual 111, 3) := by decide +kernel
theorem dX3_run_46 : decode cX3_run 46 = .ok (.iinc 2 1, 3) := by decide +kernel
theorem dX3_run_49 : decode cX3_run 49 = .ok (.goto (-12), 3) := by decide +kernel
theorem dX3_run_52 : decode cX3_run 52 = .ok (.aload_n 0, 1) := by decide +kernel
theorem dX3_run_53 : decode cX3_run 53 = .ok (.invokevirtual 114, 3) := by decide +kernel
theorem dX3_run_56 : decode cX3_run 56 = .ok (.ireturn, 1) := by decide +kernel
theorem dX3_restart_0 : decode cX3_restart 0 = .ok (.aload_n 0, 1) := by decide +kernel
theorem dX3_restart_1 : decode cX3_restart 1 = .ok (.iconst 0, 1) := by decide +kernel
theorem dX3_restart_2 : decode cX3_restart 2 = .ok (.putfield 26, 3) := by decide +kernel
theorem dX3_restart_5 : decode cX3_restart 5 = .ok (.aload_n 0, 1) := by decide +kernel
theorem dX3_restart_6 : decode cX3_restart 6 = .ok (.iconst 0, 1) := by decide +kernel
theorem dX3_restart_7 : decode cX3_restart 7 = .ok (.putfield 40, 3) := by decide +kernel
theorem dX3_restart_10 : decode cX3_restart 10 = .ok (.aload_n 0, 1) := by decide +kernel
theorem dX3_restart_11 : decode cX3_restart 11 = .ok (.iconst 0, 1) := by decide +kernel
theorem dX3_restart_12 : decode cX3_restart 12 = .ok (.putfield 95, 3) := by decide +kernel
theorem dX3_restart_15 : decode cX3_restart 15 = .ok (.iconst 0, 1) := by decide +kernel
theorem dX3_restart_16 : decode cX3_restart 16 = .ok (.istore_n 1, 1) := by decide +kernel
theorem dX3_restart_17 : decode cX3_restart 17 = .ok (.iload_n 1, 1) := by decide +kernel
theorem dX3_restart_18 : decode cX3_restart 18 = .ok (.aload_n 0, 1) := by decide +kernel
theorem dX3_restart_19 : decode cX3_restart 19 = .ok (.getfield 29, 3) := by decide +kernel
theorem dX3_restart_22 : decode cX3_restart 22 = .ok (.if_icmp .ge 14, 3) := by decide +kernel
theorem dX3_restart_25 : decode cX3_restart 25 = .ok (.aload_n 0, 1) := by decide +kernel
theorem dX3_restart_26 : decode cX3_restart 26 = .ok (.iload_n 1, 1) := by decide +kernel
theorem dX3_restart_27 : decode cX3_restart 27 = .ok (.invokevirtual 60, 3) := by decide +kernel
theorem dX3_restart_30 : decode cX3_restart 30 = .ok (.iinc 1 1, 3) := by decide +kernel
theorem dX3_restart_33 : decode cX3_restart 33 = .ok (.goto (-16), 3) := by decide +kernel
theorem dX3_restart_36 : decode cX3_restart 36 = .ok (.aload_n 0, 1) := by decide +kernel
theorem dX3_restart_37 : decode cX3_restart 37 = .ok (.getfield 29, 3) := by decide +kernel
theorem dX3_restart_40 : decode cX3_restart 40 = .ok (.ireturn, 1) := by decide +kernel
theorem dX3_counted_0 : decode cX3_counted 0 = .ok (.iload_n 1, 1) := by decide +kernel
theorem dX3_counted_1 : decode cX3_counted 1 = .ok (.tableswitch 60 0 4 #[35, 40, 45, 50, 55], 35) := by decide +kernel
theorem dX3_counted_36 : decode cX3_counted 36 = .ok (.aload_n 0, 1) := by decide +kernel
theorem dX3_counted_37 : decode cX3_counted 37 = .ok (.getfield 40, 3) := by decide +kernel
theorem dX3_counted_40 : decode cX3_counted 40 = .ok (.ireturn, 1) := by decide +kernel
theorem dX3_counted_41 : decode cX3_counted 41 = .ok (.aload_n 0, 1) := by decide +kernel
theorem dX3_counted_42 : decode cX3_counted 42 = .ok (.getfield 29, 3) := by decide +kernel
theorem dX3_counted_45 : decode cX3_counted 45 = .ok (.ireturn, 1) := by decide +kernel
theorem dX3_counted_46 : decode cX3_counted 46 = .ok (.aload_n 0, 1) := by decide +kernel
theorem dX3_counted_47 : decode cX3_counted 47 = .ok (.getfield 9, 3) := by decide +kernel
theorem dX3_counted_50 : decode cX3_counted 50 = .ok (.ireturn, 1) := by decide +kernel
theorem dX3_counted_51 : decode cX3_counted 51 = .ok (.aload_n 0, 1) := by decide +kernel
theorem dX3_counted_52 : decode cX3_counted 52 = .ok (.getfield 13, 3) := by decide +kernel
theorem dX3_counted_55 : decode cX3_counted 55 = .ok (.ireturn, 1) := by decide +kernel
theorem dX3_counted_56 : decode cX3_counted 56 = .ok (.aload_n 0, 1) := by decide +kernel
theorem dX3_counted_57 : decode cX3_counted 57 = .ok (.invokevirtual 114, 3) := by decide +kernel
theorem dX3_counted_60 : decode cX3_counted 60 = .ok (.ireturn, 1) := by decide +kernel
theorem dX3_counted_61 : decode cX3_counted 61 = .ok (.aload_n 0, 1) := by decide +kernel
theorem dX3_counted_62 : decode cX3_counted 62 = .ok (.getfield 95, 3) := by decide +kernel
theorem dX3_counted_65 : decode cX3_counted 65 = .ok (.ireturn, 1) := by decide +kernel
theorem dX3_count_0 : decode cX3_count 0 = .ok (.aload_n 0, 1) := by decide +kernel
theorem dX3_count_1 : decode cX3_count 1 = .ok (.iconst 0, 1) := by decide +kernel
theorem dX3_count_2 : decode cX3_count 2 = .ok (.putfield 26, 3) := by decide +kernel
theorem dX3_count_5 : decode cX3_count 5 = .ok (.iload_n 1, 1) := by decide +kernel
theorem dX3_count_6 : decode cX3_count 6 = .ok (.iconst 0, 1) := by decide +kernel
theorem dX3_count_7 : decode cX3_count 7 = .ok (.iconst 5, 1) := by decide +kernel
theorem dX3_count_8 : decode cX3_count 8 = .ok (.invokestatic 32, 3) := by decide +kernel
theorem dX3_count_11 : decode cX3_count 11 = .ok (.ifCond .eq 11, 3) := by decide +kernel
theorem dX3_count_14 : decode cX3_count 14 = .ok (.aload_n 0, 1) := by decide +kernel
theorem dX3_count_15 : decode cX3_count 15 = .ok (.iload_n 1, 1) := by decide +kernel
theorem dX3_count_16 : decode cX3_count 16 = .ok (.invokevirtual 118, 3) := by decide +kernel
theorem dX3_count_19 : decode cX3_count 19 = .ok (.goto 8, 3) := by decide +kernel
theorem dX3_count_22 : decode cX3_count 22 = .ok (.aload_n 0, 1) := by decide +kernel
theorem dX3_count_23 : decode cX3_count 23 = .ok (.iconst 1, 1) := by decide +kernel
theorem dX3_count_24 : decode cX3_count 24 = .ok (.invokevirtual 36, 3) := by decide +kernel
theorem dX3_count_27 : decode cX3_count 27 = .ok (.ireturn, 1) := by decide +kernel
theorem dX3_teamTold_0 : decode cX3_teamTold 0 = .ok (.iload_n 2, 1) := by decide +kernel
theorem dX3_teamTold_1 : decode cX3_teamTold 1 = .ok (.tableswitch 127 0 11 #[63, 71, 79, 87, 127, 127, 127, 127, 95, 103, 111, 119], 63) := by decide +kernel
theorem dX3_teamTold_64 : decode cX3_teamTold 64 = .ok (.aload_n 0, 1) := by decide +kernel
theorem dX3_teamTold_65 : decode cX3_teamTold 65 = .ok (.iload_n 1, 1) := by decide +kernel
theorem dX3_teamTold_66 : decode cX3_teamTold 66 = .ok (.bipush 9, 2) := by decide +kernel
theorem dX3_teamTold_68 : decode cX3_teamTold 68 = .ok (.invokevirtual 56, 3) := by decide +kernel
theorem dX3_teamTold_71 : decode cX3_teamTold 71 = .ok (.ireturn, 1) := by decide +kernel
theorem dX3_teamTold_72 : decode cX3_teamTold 72 = .ok (.aload_n 0, 1) := by decide +kernel
theorem dX3_teamTold_73 : decode cX3_teamTold 73 = .ok (.iload_n 1, 1) := by decide +kernel
theorem dX3_teamTold_74 : decode cX3_teamTold 74 = .ok (.bipush 10, 2) := by decide +kernel
theorem dX3_teamTold_76 : decode cX3_teamTold 76 = .ok (.invokevirtual 56, 3) := by decide +kernel
theorem dX3_teamTold_79 : decode cX3_teamTold 79 = .ok (.ireturn, 1) := by decide +kernel
theorem dX3_teamTold_80 : decode cX3_teamTold 80 = .ok (.aload_n 0, 1) := by decide +kernel
theorem dX3_teamTold_81 : decode cX3_teamTold 81 = .ok (.iload_n 1, 1) := by decide +kernel
theorem dX3_teamTold_82 : decode cX3_teamTold 82 = .ok (.bipush 11, 2) := by decide +kernel
theorem dX3_teamTold_84 : decode cX3_teamTold 84 = .ok (.invokevirtual 56, 3) := by decide +kernel
theorem dX3_teamTold_87 : decode cX3_teamTold 87 = .ok (.ireturn, 1) := by decide +kernel
theorem dX3_teamTold_88 : decode cX3_teamTold 88 = .ok (.aload_n 0, 1) := by decide +kernel
theorem dX3_teamTold_89 : decode cX3_teamTold 89 = .ok (.iload_n 1, 1) := by decide +kernel
theorem dX3_teamTold_90 : decode cX3_teamTold 90 = .ok (.bipush 12, 2) := by decide +kernel
theorem dX3_teamTold_92 : decode cX3_teamTold 92 = .ok (.invokevirtual 56, 3) := by decide +kernel
theorem dX3_teamTold_95 : decode cX3_teamTold 95 = .ok (.ireturn, 1) := by decide +kernel
theorem dX3_teamTold_96 : decode cX3_teamTold 96 = .ok (.aload_n 0, 1) := by decide +kernel
theorem dX3_teamTold_97 : decode cX3_teamTold 97 = .ok (.iload_n 1, 1) := by decide +kernel
theorem dX3_teamTold_98 : decode cX3_teamTold 98 = .ok (.bipush 13, 2) := by decide +kernel
theorem dX3_teamTold_100 : decode cX3_teamTold 100 = .ok (.invokevirtual 56, 3) := by decide +kernel
theorem dX3_teamTold_103 : decode cX3_teamTold 103 = .ok (.ireturn, 1) := by decide +kernel
theorem dX3_teamTold_104 : decode cX3_teamTold 104 = .ok (.aload_n 0, 1) := by decide +kernel
theorem dX3_teamTold_105 : decode cX3_teamTold 105 = .ok (.iload_n 1, 1) := by decide +kernel
theorem dX3_teamTold_106 : decode cX3_teamTold 106 = .ok (.bipush 7, 2) := by decide +kernel
theorem dX3_teamTold_108 : decode cX3_teamTold 108 = .ok (.invokevirtual 56, 3) := by decide +kernel
theorem dX3_teamTold_111 : decode cX3_teamTold 111 = .ok (.ireturn, 1) := by decide +kernel
theorem dX3_teamTold_112 : decode cX3_teamTold 112 = .ok (.aload_n 0, 1) := by decide +kernel
theorem dX3_teamTold_113 : decode cX3_teamTold 113 = .ok (.iload_n 1, 1) := by decide +kernel
theorem dX3_teamTold_114 : decode cX3_teamTold 114 = .ok (.bipush 8, 2) := by decide +kernel
theorem dX3_teamTold_116 : decode cX3_teamTold 116 = .ok (.invokevirtual 56, 3) := by decide +kernel
theorem dX3_teamTold_119 : decode cX3_teamTold 119 = .ok (.ireturn, 1) := by decide +kernel
theorem dX3_teamTold_120 : decode cX3_teamTold 120 = .ok (.aload_n 0, 1) := by decide +kernel
theorem dX3_teamTold_121 : decode cX3_teamTold 121 = .ok (.iload_n 1, 1) := by decide +kernel
theorem dX3_teamTold_122 : decode cX3_teamTold 122 = .ok (.bipush 14, 2) := by decide +kernel
theorem dX3_teamTold_124 : decode cX3_teamTold 124 = .ok (.invokevirtual 56, 3) := by decide +kernel
theorem dX3_teamTold_127 : decode cX3_teamTold 127 = .ok (.ireturn, 1) := by decide +kernel
theorem dX3_teamTold_128 : decode cX3_teamTold 128 = .ok (.aload_n 0, 1) := by decide +kernel
theorem dX3_teamTold_129 : decode cX3_teamTold 129 = .ok (.iload_n 1, 1) := by decide +kernel
theorem dX3_teamTold_130 : decode cX3_teamTold 130 = .ok (.iload_n 2, 1) := by decide +kernel
theorem dX3_teamTold_131 : decode cX3_teamTold 131 = .ok (.iconst 4, 1) := by decide +kernel
theorem dX3_teamTold_132 : decode cX3_teamTold 132 = .ok (.isub, 1) := by decide +kernel
theorem dX3_teamTold_133 : decode cX3_teamTold 133 = .ok (.invokevirtual 75, 3) := by decide +kernel
theorem dX3_teamTold_136 : decode cX3_teamTold 136 = .ok (.ireturn, 1) := by decide +kernel
theorem dX3_team_0 : decode cX3_team 0 = .ok (.aload_n 0, 1) := by decide +kernel
theorem dX3_team_1 : decode cX3_team 1 = .ok (.iconst 0, 1) := by decide +kernel
theorem dX3_team_2 : decode cX3_team 2 = .ok (.putfield 26, 3) := by decide +kernel
theorem dX3_team_5 : decode cX3_team 5 = .ok (.aload_n 0, 1) := by decide +kernel
theorem dX3_team_6 : decode cX3_team 6 = .ok (.iload_n 1, 1) := by decide +kernel
theorem dX3_team_7 : decode cX3_team 7 = .ok (.invokevirtual 64, 3) := by decide +kernel
theorem dX3_team_10 : decode cX3_team 10 = .ok (.ifCond .eq 22, 3) := by decide +kernel
theorem dX3_team_13 : decode cX3_team 13 = .ok (.iload_n 2, 1) := by decide +kernel
theorem dX3_team_14 : decode cX3_team 14 = .ok (.iconst 0, 1) := by decide +kernel
theorem dX3_team_15 : decode cX3_team 15 = .ok (.bipush 11, 2) := by decide +kernel
theorem dX3_team_17 : decode cX3_team 17 = .ok (.invokestatic 32, 3) := by decide +kernel
theorem dX3_team_20 : decode cX3_team 20 = .ok (.ifCond .eq 12, 3) := by decide +kernel
theorem dX3_team_23 : decode cX3_team 23 = .ok (.aload_n 0, 1) := by decide +kernel
theorem dX3_team_24 : decode cX3_team 24 = .ok (.iload_n 1, 1) := by decide +kernel
theorem dX3_team_25 : decode cX3_team 25 = .ok (.iload_n 2, 1) := by decide +kernel
theorem dX3_team_26 : decode cX3_team 26 = .ok (.invokevirtual 121, 3) := by decide +kernel
theorem dX3_team_29 : decode cX3_team 29 = .ok (.goto 8, 3) := by decide +kernel
theorem dX3_team_32 : decode cX3_team 32 = .ok (.aload_n 0, 1) := by decide +kernel
theorem dX3_team_33 : decode cX3_team 33 = .ok (.iconst 1, 1) := by decide +kernel
theorem dX3_team_34 : decode cX3_team 34 = .ok (.invokevirtual 36, 3) := by decide +kernel
theorem dX3_team_37 : decode cX3_team 37 = .ok (.ireturn, 1) := by decide +kernel
theorem dX3_roller_0 : decode cX3_roller 0 = .ok (.aload_n 0, 1) := by decide +kernel
theorem dX3_roller_1 : decode cX3_roller 1 = .ok (.iconst 0, 1) := by decide +kernel
theorem dX3_roller_2 : decode cX3_roller 2 = .ok (.putfield 26, 3) := by decide +kernel
theorem dX3_roller_5 : decode cX3_roller 5 = .ok (.aload_n 0, 1) := by decide +kernel
theorem dX3_roller_6 : decode cX3_roller 6 = .ok (.iload_n 1, 1) := by decide +kernel
theorem dX3_roller_7 : decode cX3_roller 7 = .ok (.invokevirtual 64, 3) := by decide +kernel
theorem dX3_roller_10 : decode cX3_roller 10 = .ok (.ifCond .eq 19, 3) := by decide +kernel
theorem dX3_roller_13 : decode cX3_roller 13 = .ok (.iload_n 2, 1) := by decide +kernel
theorem dX3_roller_14 : decode cX3_roller 14 = .ok (.iconst 0, 1) := by decide +kernel
theorem dX3_roller_15 : decode cX3_roller 15 = .ok (.aload_n 0, 1) := by decide +kernel
theorem dX3_roller_16 : decode cX3_roller 16 = .ok (.iload_n 1, 1) := by decide +kernel
theorem dX3_roller_17 : decode cX3_roller 17 = .ok (.iconst 2, 1) := by decide +kernel
theorem dX3_roller_18 : decode cX3_roller 18 = .ok (.invokevirtual 56, 3) := by decide +kernel
theorem dX3_roller_21 : decode cX3_roller 21 = .ok (.iconst 1, 1) := by decide +kernel
theorem dX3_roller_22 : decode cX3_roller 22 = .ok (.isub, 1) := by decide +kernel
theorem dX3_roller_23 : decode cX3_roller 23 = .ok (.invokestatic 32, 3) := by decide +kernel
theorem dX3_roller_26 : decode cX3_roller 26 = .ok (.ifCond .ne 9, 3) := by decide +kernel
theorem dX3_roller_29 : decode cX3_roller 29 = .ok (.aload_n 0, 1) := by decide +kernel
theorem dX3_roller_30 : decode cX3_roller 30 = .ok (.iconst 1, 1) := by decide +kernel
theorem dX3_roller_31 : decode cX3_roller 31 = .ok (.invokevirtual 36, 3) := by decide +kernel
theorem dX3_roller_34 : decode cX3_roller 34 = .ok (.ireturn, 1) := by decide +kernel
theorem dX3_roller_35 : decode cX3_roller 35 = .ok (.aload_n 0, 1) := by decide +kernel
theorem dX3_roller_36 : decode cX3_roller 36 = .ok (.iload_n 1, 1) := by decide +kernel
theorem dX3_roller_37 : decode cX3_roller 37 = .ok (.iload_n 2, 1) := by decide +kernel
theorem dX3_roller_38 : decode cX3_roller 38 = .ok (.invokevirtual 68, 3) := by decide +kernel
theorem dX3_roller_41 : decode cX3_roller 41 = .ok (.ifCond .eq 11, 3) := by decide +kernel
theorem dX3_roller_44 : decode cX3_roller 44 = .ok (.aload_n 0, 1) := by decide +kernel
theorem dX3_roller_45 : decode cX3_roller 45 = .ok (.iconst 2, 1) := by decide +kernel
theorem dX3_roller_46 : decode cX3_roller 46 = .ok (.invokevirtual 36, 3) := by decide +kernel
theorem dX3_roller_49 : decode cX3_roller 49 = .ok (.goto 12, 3) := by decide +kernel
theorem dX3_roller_52 : decode cX3_roller 52 = .ok (.aload_n 0, 1) := by decide +kernel
theorem dX3_roller_53 : decode cX3_roller 53 = .ok (.iload_n 1, 1) := by decide +kernel
theorem dX3_roller_54 : decode cX3_roller 54 = .ok (.bipush 15, 2) := by decide +kernel
theorem dX3_roller_56 : decode cX3_roller 56 = .ok (.iload_n 2, 1) := by decide +kernel
theorem dX3_roller_57 : decode cX3_roller 57 = .ok (.iadd, 1) := by decide +kernel
theorem dX3_roller_58 : decode cX3_roller 58 = .ok (.invokevirtual 56, 3) := by decide +kernel
theorem dX3_roller_61 : decode cX3_roller 61 = .ok (.ireturn, 1) := by decide +kernel
theorem dX3_next_0 : decode cX3_next 0 = .ok (.aload_n 0, 1) := by decide +kernel
theorem dX3_next_1 : decode cX3_next 1 = .ok (.iconst 0, 1) := by decide +kernel
theorem dX3_next_2 : decode cX3_next 2 = .ok (.putfield 26, 3) := by decide +kernel
theorem dX3_next_5 : decode cX3_next 5 = .ok (.aload_n 0, 1) := by decide +kernel
theorem dX3_next_6 : decode cX3_next 6 = .ok (.iload_n 1, 1) := by decide +kernel
theorem dX3_next_7 : decode cX3_next 7 = .ok (.invokevirtual 64, 3) := by decide +kernel
theorem dX3_next_10 : decode cX3_next 10 = .ok (.ifCond .eq 12, 3) := by decide +kernel
theorem dX3_next_13 : decode cX3_next 13 = .ok (.iload_n 2, 1) := by decide +kernel
theorem dX3_next_14 : decode cX3_next 14 = .ok (.iconst 0, 1) := by decide +kernel
theorem dX3_next_15 : decode cX3_next 15 = .ok (.iconst 2, 1) := by decide +kernel
theorem dX3_next_16 : decode cX3_next 16 = .ok (.invokestatic 32, 3) := by decide +kernel
theorem dX3_next_19 : decode cX3_next 19 = .ok (.ifCond .ne 9, 3) := by decide +kernel
theorem dX3_next_22 : decode cX3_next 22 = .ok (.aload_n 0, 1) := by decide +kernel
theorem dX3_next_23 : decode cX3_next 23 = .ok (.iconst 1, 1) := by decide +kernel
theorem dX3_next_24 : decode cX3_next 24 = .ok (.invokevirtual 36, 3) := by decide +kernel
theorem dX3_next_27 : decode cX3_next 27 = .ok (.ireturn, 1) := by decide +kernel
theorem dX3_next_28 : decode cX3_next 28 = .ok (.iload_n 2, 1) := by decide +kernel
theorem dX3_next_29 : decode cX3_next 29 = .ok (.ifCond .ne 11, 3) := by decide +kernel
theorem dX3_next_32 : decode cX3_next 32 = .ok (.aload_n 0, 1) := by decide +kernel
theorem dX3_next_33 : decode cX3_next 33 = .ok (.iload_n 1, 1) := by decide +kernel
theorem dX3_next_34 : decode cX3_next 34 = .ok (.invokevirtual 86, 3) := by decide +kernel
theorem dX3_next_37 : decode cX3_next 37 = .ok (.goto 21, 3) := by decide +kernel
theorem dX3_next_40 : decode cX3_next 40 = .ok (.iload_n 2, 1) := by decide +kernel
theorem dX3_next_41 : decode cX3_next 41 = .ok (.iconst 1, 1) := by decide +kernel
theorem dX3_next_42 : decode cX3_next 42 = .ok (.if_icmp .ne 11, 3) := by decide +kernel
theorem dX3_next_45 : decode cX3_next 45 = .ok (.aload_n 0, 1) := by decide +kernel
theorem dX3_next_46 : decode cX3_next 46 = .ok (.iload_n 1, 1) := by decide +kernel
theorem dX3_next_47 : decode cX3_next 47 = .ok (.invokevirtual 89, 3) := by decide +kernel
theorem dX3_next_50 : decode cX3_next 50 = .ok (.goto 8, 3) := by decide +kernel
theorem dX3_next_53 : decode cX3_next 53 = .ok (.aload_n 0, 1) := by decide +kernel
theorem dX3_next_54 : decode cX3_next 54 = .ok (.iload_n 1, 1) := by decide +kernel
theorem dX3_next_55 : decode cX3_next 55 = .ok (.invokevirtual 92, 3) := by decide +kernel
theorem dX3_next_58 : decode cX3_next 58 = .ok (.ireturn, 1) := by decide +kernel
theorem dX3_isAhead_0 : decode cX3_isAhead 0 = .ok (.aload_n 0, 1) := by decide +kernel
theorem dX3_isAhead_1 : decode cX3_isAhead 1 = .ok (.iload_n 1, 1) := by decide +kernel
theorem dX3_isAhead_2 : decode cX3_isAhead 2 = .ok (.bipush 13, 2) := by decide +kernel
theorem dX3_isAhead_4 : decode cX3_isAhead 4 = .ok (.invokevirtual 56, 3) := by decide +kernel
theorem dX3_isAhead_7 : decode cX3_isAhead 7 = .ok (.istore_n 3, 1) := by decide +kernel
theorem dX3_isAhead_8 : decode cX3_isAhead 8 = .ok (.aload_n 0, 1) := by decide +kernel
theorem dX3_isAhead_9 : decode cX3_isAhead 9 = .ok (.iload_n 2, 1) := by decide +kernel
theorem dX3_isAhead_10 : decode cX3_isAhead 10 = .ok (.bipush 13, 2) := by decide +kernel
theorem dX3_isAhead_12 : decode cX3_isAhead 12 = .ok (.invokevirtual 56, 3) := by decide +kernel
theorem dX3_isAhead_15 : decode cX3_isAhead 15 = .ok (.istore 4, 2) := by decide +kernel
theorem dX3_isAhead_17 : decode cX3_isAhead 17 = .ok (.iload_n 3, 1) := by decide +kernel
theorem dX3_isAhead_18 : decode cX3_isAhead 18 = .ok (.iload 4, 2) := by decide +kernel
theorem dX3_isAhead_20 : decode cX3_isAhead 20 = .ok (.if_icmp .eq 26, 3) := by decide +kernel
theorem dX3_isAhead_23 : decode cX3_isAhead 23 = .ok (.iload_n 3, 1) := by decide +kernel
theorem dX3_isAhead_24 : decode cX3_isAhead 24 = .ok (.iconst (-1), 1) := by decide +kernel
theorem dX3_isAhead_25 : decode cX3_isAhead 25 = .ok (.if_icmp .eq 19, 3) := by decide +kernel
theorem dX3_isAhead_28 : decode cX3_isAhead 28 = .ok (.iload 4, 2) := by decide +kernel
theorem dX3_isAhead_30 : decode cX3_isAhead 30 = .ok (.iconst (-1), 1) := by decide +kernel
theorem dX3_isAhead_31 : decode cX3_isAhead 31 = .ok (.if_icmp .eq 9, 3) := by decide +kernel
theorem dX3_isAhead_34 : decode cX3_isAhead 34 = .ok (.iload_n 3, 1) := by decide +kernel
theorem dX3_isAhead_35 : decode cX3_isAhead 35 = .ok (.iload 4, 2) := by decide +kernel
theorem dX3_isAhead_37 : decode cX3_isAhead 37 = .ok (.if_icmp .ge 7, 3) := by decide +kernel
theorem dX3_isAhead_40 : decode cX3_isAhead 40 = .ok (.iconst 1, 1) := by decide +kernel
theorem dX3_isAhead_41 : decode cX3_isAhead 41 = .ok (.goto 4, 3) := by decide +kernel
theorem dX3_isAhead_44 : decode cX3_isAhead 44 = .ok (.iconst 0, 1) := by decide +kernel
theorem dX3_isAhead_45 : decode cX3_isAhead 45 = .ok (.ireturn, 1) := by decide +kernel
theorem dX3_isAhead_46 : decode cX3_isAhead 46 = .ok (.iload_n 3, 1) := by decide +kernel
theorem dX3_isAhead_47 : decode cX3_isAhead 47 = .ok (.iconst (-1), 1) := by decide +kernel
theorem dX3_isAhead_48 : decode cX3_isAhead 48 = .ok (.if_icmp .ne 43, 3) := by decide +kernel
theorem dX3_isAhead_51 : decode cX3_isAhead 51 = .ok (.aload_n 0, 1) := by decide +kernel
theorem dX3_isAhead_52 : decode cX3_isAhead 52 = .ok (.iload_n 1, 1) := by decide +kernel
theorem dX3_isAhead_53 : decode cX3_isAhead 53 = .ok (.bipush 9, 2) := by decide +kernel
theorem dX3_isAhead_55 : decode cX3_isAhead 55 = .ok (.invokevirtual 56, 3) := by decide +kernel
theorem dX3_isAhead_58 : decode cX3_isAhead 58 = .ok (.aload_n 0, 1) := by decide +kernel
theorem dX3_isAhead_59 : decode cX3_isAhead 59 = .ok (.iload_n 2, 1) := by decide +kernel
theorem dX3_isAhead_60 : decode cX3_isAhead 60 = .ok (.bipush 9, 2) := by decide +kernel
theorem dX3_isAhead_62 : decode cX3_isAhead 62 = .ok (.invokevirtual 56, 3) := by decide +kernel
theorem dX3_isAhead_65 : decode cX3_isAhead 65 = .ok (.if_icmp .eq 26, 3) := by decide +kernel
theorem dX3_isAhead_68 : decode cX3_isAhead 68 = .ok (.aload_n 0, 1) := by decide +kernel
theorem dX3_isAhead_69 : decode cX3_isAhead 69 = .ok (.iload_n 1, 1) := by decide +kernel
theorem dX3_isAhead_70 : decode cX3_isAhead 70 = .ok (.bipush 9, 2) := by decide +kernel
theorem dX3_isAhead_72 : decode cX3_isAhead 72 = .ok (.invokevirtual 56, 3) := by decide +kernel
theorem dX3_isAhead_75 : decode cX3_isAhead 75 = .ok (.aload_n 0, 1) := by decide +kernel
theorem dX3_isAhead_76 : decode cX3_isAhead 76 = .ok (.iload_n 2, 1) := by decide +kernel
theorem dX3_isAhead_77 : decode cX3_isAhead 77 = .ok (.bipush 9, 2) := by decide +kernel
theorem dX3_isAhead_79 : decode cX3_isAhead 79 = .ok (.invokevirtual 56, 3) := by decide +kernel
theorem dX3_isAhead_82 : decode cX3_isAhead 82 = .ok (.if_icmp .le 7, 3) := by decide +kernel
theorem dX3_isAhead_85 : decode cX3_isAhead 85 = .ok (.iconst 1, 1) := by decide +kernel
theorem dX3_isAhead_86 : decode cX3_isAhead 86 = .ok (.goto 4, 3) := by decide +kernel
theorem dX3_isAhead_89 : decode cX3_isAhead 89 = .ok (.iconst 0, 1) := by decide +kernel
theorem dX3_isAhead_90 : decode cX3_isAhead 90 = .ok (.ireturn, 1) := by decide +kernel
theorem dX3_isAhead_91 : decode cX3_isAhead 91 = .ok (.iload_n 1, 1) := by decide +kernel
theorem dX3_isAhead_92 : decode cX3_isAhead 92 = .ok (.iload_n 2, 1) := by decide +kernel
theorem dX3_isAhead_93 : decode cX3_isAhead 93 = .ok (.if_icmp .ge 7, 3) := by decide +kernel
theorem dX3_isAhead_96 : decode cX3_isAhead 96 = .ok (.iconst 1, 1) := by decide +kernel
theorem dX3_isAhead_97 : decode cX3_isAhead 97 = .ok (.goto 4, 3) := by decide +kernel
theorem dX3_isAhead_100 : decode cX3_isAhead 100 = .ok (.iconst 0, 1) := by decide +kernel
theorem dX3_isAhead_101 : decode cX3_isAhead 101 = .ok (.ireturn, 1) := by decide +kernel
theorem dX3_rankOf_0 : decode cX3_rankOf 0 = .ok (.iconst 0, 1) := by decide +kernel
theorem dX3_rankOf_1 : decode cX3_rankOf 1 = .ok (.istore_n 2, 1) := by decide +kernel
theorem dX3_rankOf_2 : decode cX3_rankOf 2 = .ok (.iconst 0, 1) := by decide +kernel
theorem dX3_rankOf_3 : decode cX3_rankOf 3 = .ok (.istore_n 3, 1) := by decide +kernel
theorem dX3_rankOf_4 : decode cX3_rankOf 4 = .ok (.iload_n 3, 1) := by decide +kernel
theorem dX3_rankOf_5 : decode cX3_rankOf 5 = .ok (.aload_n 0, 1) := by decide +kernel
theorem dX3_rankOf_6 : decode cX3_rankOf 6 = .ok (.getfield 29, 3) := by decide +kernel
theorem dX3_rankOf_9 : decode cX3_rankOf 9 = .ok (.if_icmp .ge 31, 3) := by decide +kernel
theorem dX3_rankOf_12 : decode cX3_rankOf 12 = .ok (.iload_n 2, 1) := by decide +kernel
theorem dX3_rankOf_13 : decode cX3_rankOf 13 = .ok (.iload_n 3, 1) := by decide +kernel
theorem dX3_rankOf_14 : decode cX3_rankOf 14 = .ok (.iload_n 1, 1) := by decide +kernel
theorem dX3_rankOf_15 : decode cX3_rankOf 15 = .ok (.if_icmp .eq 16, 3) := by decide +kernel
theorem dX3_rankOf_18 : decode cX3_rankOf 18 = .ok (.aload_n 0, 1) := by decide +kernel
theorem dX3_rankOf_19 : decode cX3_rankOf 19 = .ok (.iload_n 3, 1) := by decide +kernel
theorem dX3_rankOf_20 : decode cX3_rankOf 20 = .ok (.iload_n 1, 1) := by decide +kernel
theorem dX3_rankOf_21 : decode cX3_rankOf 21 = .ok (.invokevirtual 124, 3) := by decide +kernel
theorem dX3_rankOf_24 : decode cX3_rankOf 24 = .ok (.ifCond .eq 7, 3) := by decide +kernel
theorem dX3_rankOf_27 : decode cX3_rankOf 27 = .ok (.iconst 1, 1) := by decide +kernel
theorem dX3_rankOf_28 : decode cX3_rankOf 28 = .ok (.goto 4, 3) := by decide +kernel
theorem dX3_rankOf_31 : decode cX3_rankOf 31 = .ok (.iconst 0, 1) := by decide +kernel
theorem dX3_rankOf_32 : decode cX3_rankOf 32 = .ok (.iadd, 1) := by decide +kernel
theorem dX3_rankOf_33 : decode cX3_rankOf 33 = .ok (.istore_n 2, 1) := by decide +kernel
theorem dX3_rankOf_34 : decode cX3_rankOf 34 = .ok (.iinc 3 1, 3) := by decide +kernel
theorem dX3_rankOf_37 : decode cX3_rankOf 37 = .ok (.goto (-33), 3) := by decide +kernel
theorem dX3_rankOf_40 : decode cX3_rankOf 40 = .ok (.iload_n 2, 1) := by decide +kernel
theorem dX3_rankOf_41 : decode cX3_rankOf 41 = .ok (.ireturn, 1) := by decide +kernel
theorem dX3_teamAt_0 : decode cX3_teamAt 0 = .ok (.iconst 0, 1) := by decide +kernel
theorem dX3_teamAt_1 : decode cX3_teamAt 1 = .ok (.istore_n 2, 1) := by decide +kernel
theorem dX3_teamAt_2 : decode cX3_teamAt 2 = .ok (.aload_n 0, 1) := by decide +kernel
theorem dX3_teamAt_3 : decode cX3_teamAt 3 = .ok (.iload_n 2, 1) := by decide +kernel
theorem dX3_teamAt_4 : decode cX3_teamAt 4 = .ok (.invokevirtual 127, 3) := by decide +kernel
theorem dX3_teamAt_7 : decode cX3_teamAt 7 = .ok (.iload_n 1, 1) := by decide +kernel
theorem dX3_teamAt_8 : decode cX3_teamAt 8 = .ok (.if_icmp .eq 9, 3) := by decide +kernel
theorem dX3_teamAt_11 : decode cX3_teamAt 11 = .ok (.iinc 2 1, 3) := by decide +kernel
theorem dX3_teamAt_14 : decode cX3_teamAt 14 = .ok (.goto (-12), 3) := by decide +kernel
theorem dX3_teamAt_17 : decode cX3_teamAt 17 = .ok (.iload_n 2, 1) := by decide +kernel
theorem dX3_teamAt_18 : decode cX3_teamAt 18 = .ok (.ireturn, 1) := by decide +kernel
theorem dX3_ranked_0 : decode cX3_ranked 0 = .ok (.aload_n 0, 1) := by decide +kernel
theorem dX3_ranked_1 : decode cX3_ranked 1 = .ok (.iconst 0, 1) := by decide +kernel
theorem dX3_ranked_2 : decode cX3_ranked 2 = .ok (.putfield 26, 3) := by decide +kernel
theorem dX3_ranked_5 : decode cX3_ranked 5 = .ok (.iload_n 1, 1) := by decide +kernel
theorem dX3_ranked_6 : decode cX3_ranked 6 = .ok (.iconst 0, 1) := by decide +kernel
theorem dX3_ranked_7 : decode cX3_ranked 7 = .ok (.aload_n 0, 1) := by decide +kernel
theorem dX3_ranked_8 : decode cX3_ranked 8 = .ok (.getfield 29, 3) := by decide +kernel
theorem dX3_ranked_11 : decode cX3_ranked 11 = .ok (.iconst 1, 1) := by decide +kernel
theorem dX3_ranked_12 : decode cX3_ranked 12 = .ok (.isub, 1) := by decide +kernel
theorem dX3_ranked_13 : decode cX3_ranked 13 = .ok (.invokestatic 32, 3) := by decide +kernel
theorem dX3_ranked_16 : decode cX3_ranked 16 = .ok (.ifCond .eq 11, 3) := by decide +kernel
theorem dX3_ranked_19 : decode cX3_ranked 19 = .ok (.aload_n 0, 1) := by decide +kernel
theorem dX3_ranked_20 : decode cX3_ranked 20 = .ok (.iload_n 1, 1) := by decide +kernel
theorem dX3_ranked_21 : decode cX3_ranked 21 = .ok (.invokevirtual 130, 3) := by decide +kernel
theorem dX3_ranked_24 : decode cX3_ranked 24 = .ok (.goto 8, 3) := by decide +kernel
theorem dX3_ranked_27 : decode cX3_ranked 27 = .ok (.aload_n 0, 1) := by decide +kernel
theorem dX3_ranked_28 : decode cX3_ranked 28 = .ok (.iconst 1, 1) := by decide +kernel
theorem dX3_ranked_29 : decode cX3_ranked 29 = .ok (.invokevirtual 36, 3) := by decide +kernel
theorem dX3_ranked_32 : decode cX3_ranked 32 = .ok (.ireturn, 1) := by decide +kernel
theorem dX3_foresee_0 : decode cX3_foresee 0 = .ok (.aload_n 0, 1) := by decide +kernel
theorem dX3_foresee_1 : decode cX3_foresee 1 = .ok (.iconst 0, 1) := by decide +kernel
theorem dX3_foresee_2 : decode cX3_foresee 2 = .ok (.putfield 26, 3) := by decide +kernel
theorem dX3_foresee_5 : decode cX3_foresee 5 = .ok (.aload_n 0, 1) := by decide +kernel
theorem dX3_foresee_6 : decode cX3_foresee 6 = .ok (.iload_n 1, 1) := by decide +kernel
theorem dX3_foresee_7 : decode cX3_foresee 7 = .ok (.invokevirtual 64, 3) := by decide +kernel
theorem dX3_foresee_10 : decode cX3_foresee 10 = .ok (.ifCond .eq 12, 3) := by decide +kernel
theorem dX3_foresee_13 : decode cX3_foresee 13 = .ok (.iload_n 3, 1) := by decide +kernel
theorem dX3_foresee_14 : decode cX3_foresee 14 = .ok (.iconst 0, 1) := by decide +kernel
theorem dX3_foresee_15 : decode cX3_foresee 15 = .ok (.iconst 2, 1) := by decide +kernel
theorem dX3_foresee_16 : decode cX3_foresee 16 = .ok (.invokestatic 32, 3) := by decide +kernel
theorem dX3_foresee_19 : decode cX3_foresee 19 = .ok (.ifCond .ne 9, 3) := by decide +kernel
theorem dX3_foresee_22 : decode cX3_foresee 22 = .ok (.aload_n 0, 1) := by decide +kernel
theorem dX3_foresee_23 : decode cX3_foresee 23 = .ok (.iconst 1, 1) := by decide +kernel
theorem dX3_foresee_24 : decode cX3_foresee 24 = .ok (.invokevirtual 36, 3) := by decide +kernel
theorem dX3_foresee_27 : decode cX3_foresee 27 = .ok (.ireturn, 1) := by decide +kernel
theorem dX3_foresee_28 : decode cX3_foresee 28 = .ok (.iload_n 2, 1) := by decide +kernel
theorem dX3_foresee_29 : decode cX3_foresee 29 = .ok (.iconst 1, 1) := by decide +kernel
theorem dX3_foresee_30 : decode cX3_foresee 30 = .ok (.sipush 400, 3) := by decide +kernel
theorem dX3_foresee_33 : decode cX3_foresee 33 = .ok (.invokestatic 32, 3) := by decide +kernel
theorem dX3_foresee_36 : decode cX3_foresee 36 = .ok (.ifCond .ne 9, 3) := by decide +kernel
theorem dX3_foresee_39 : decode cX3_foresee 39 = .ok (.aload_n 0, 1) := by decide +kernel
theorem dX3_foresee_40 : decode cX3_foresee 40 = .ok (.iconst 2, 1) := by decide +kernel
theorem dX3_foresee_41 : decode cX3_foresee 41 = .ok (.invokevirtual 36, 3) := by decide +kernel
theorem dX3_foresee_44 : decode cX3_foresee 44 = .ok (.ireturn, 1) := by decide +kernel
theorem dX3_foresee_45 : decode cX3_foresee 45 = .ok (.aload_n 0, 1) := by decide +kernel
theorem dX3_foresee_46 : decode cX3_foresee 46 = .ok (.getfield 40, 3) := by decide +kernel
theorem dX3_foresee_49 : decode cX3_foresee 49 = .ok (.istore 4, 2) := by decide +kernel
theorem dX3_foresee_51 : decode cX3_foresee 51 = .ok (.aload_n 0, 1) := by decide +kernel
theorem dX3_foresee_52 : decode cX3_foresee 52 = .ok (.getfield 95, 3) := by decide +kernel
theorem dX3_foresee_55 : decode cX3_foresee 55 = .ok (.istore 5, 2) := by decide +kernel
theorem dX3_foresee_57 : decode cX3_foresee 57 = .ok (.aload_n 0, 1) := by decide +kernel
theorem dX3_foresee_58 : decode cX3_foresee 58 = .ok (.getfield 20, 3) := by decide +kernel
theorem dX3_foresee_61 : decode cX3_foresee 61 = .ok (.iconst 0, 1) := by decide +kernel
theorem dX3_foresee_62 : decode cX3_foresee 62 = .ok (.aload_n 0, 1) := by decide +kernel
theorem dX3_foresee_63 : decode cX3_foresee 63 = .ok (.getfield 23, 3) := by decide +kernel
theorem dX3_foresee_66 : decode cX3_foresee 66 = .ok (.iconst 0, 1) := by decide +kernel
theorem dX3_foresee_67 : decode cX3_foresee 67 = .ok (.sipush 174, 3) := by decide +kernel
theorem dX3_foresee_70 : decode cX3_foresee 70 = .ok (.invokestatic 46, 3) := by decide +kernel
theorem dX3_foresee_73 : decode cX3_foresee 73 = .ok (.iconst 0, 1) := by decide +kernel
theorem dX3_foresee_74 : decode cX3_foresee 74 = .ok (.istore 6, 2) := by decide +kernel
theorem dX3_foresee_76 : decode cX3_foresee 76 = .ok (.iload 6, 2) := by decide +kernel
theorem dX3_foresee_78 : decode cX3_foresee 78 = .ok (.iload_n 2, 1) := by decide +kernel
theorem dX3_foresee_79 : decode cX3_foresee 79 = .ok (.if_icmp .ge 13, 3) := by decide +kernel
theorem dX3_foresee_82 : decode cX3_foresee 82 = .ok (.aload_n 0, 1) := by decide +kernel
theorem dX3_foresee_83 : decode cX3_foresee 83 = .ok (.invokevirtual 111, 3) := by decide +kernel
theorem dX3_foresee_86 : decode cX3_foresee 86 = .ok (.iinc 6 1, 3) := by decide +kernel
theorem dX3_foresee_89 : decode cX3_foresee 89 = .ok (.goto (-13), 3) := by decide +kernel
theorem dX3_foresee_92 : decode cX3_foresee 92 = .ok (.iload_n 3, 1) := by decide +kernel
theorem dX3_foresee_93 : decode cX3_foresee 93 = .ok (.ifCond .ne 13, 3) := by decide +kernel
theorem dX3_foresee_96 : decode cX3_foresee 96 = .ok (.aload_n 0, 1) := by decide +kernel
theorem dX3_foresee_97 : decode cX3_foresee 97 = .ok (.iload_n 1, 1) := by decide +kernel
theorem dX3_foresee_98 : decode cX3_foresee 98 = .ok (.bipush 9, 2) := by decide +kernel
theorem dX3_foresee_100 : decode cX3_foresee 100 = .ok (.invokevirtual 56, 3) := by decide +kernel
theorem dX3_foresee_103 : decode cX3_foresee 103 = .ok (.goto 23, 3) := by decide +kernel
theorem dX3_foresee_106 : decode cX3_foresee 106 = .ok (.iload_n 3, 1) := by decide +kernel
theorem dX3_foresee_107 : decode cX3_foresee 107 = .ok (.iconst 1, 1) := by decide +kernel
theorem dX3_foresee_108 : decode cX3_foresee 108 = .ok (.if_icmp .ne 11, 3) := by decide +kernel
theorem dX3_foresee_111 : decode cX3_foresee 111 = .ok (.aload_n 0, 1) := by decide +kernel
theorem dX3_foresee_112 : decode cX3_foresee 112 = .ok (.iload_n 1, 1) := by decide +kernel
theorem dX3_foresee_113 : decode cX3_foresee 113 = .ok (.invokevirtual 127, 3) := by decide +kernel
theorem dX3_foresee_116 : decode cX3_foresee 116 = .ok (.goto 10, 3) := by decide +kernel
theorem dX3_foresee_119 : decode cX3_foresee 119 = .ok (.aload_n 0, 1) := by decide +kernel
theorem dX3_foresee_120 : decode cX3_foresee 120 = .ok (.iload_n 1, 1) := by decide +kernel
theorem dX3_foresee_121 : decode cX3_foresee 121 = .ok (.bipush 10, 2) := by decide +kernel
theorem dX3_foresee_123 : decode cX3_foresee 123 = .ok (.invokevirtual 56, 3) := by decide +kernel
theorem dX3_foresee_126 : decode cX3_foresee 126 = .ok (.istore 6, 2) := by decide +kernel
theorem dX3_foresee_128 : decode cX3_foresee 128 = .ok (.aload_n 0, 1) := by decide +kernel
theorem dX3_foresee_129 : decode cX3_foresee 129 = .ok (.getfield 23, 3) := by decide +kernel
theorem dX3_foresee_132 : decode cX3_foresee 132 = .ok (.iconst 0, 1) := by decide +kernel
theorem dX3_foresee_133 : decode cX3_foresee 133 = .ok (.aload_n 0, 1) := by decide +kernel
theorem dX3_foresee_134 : decode cX3_foresee 134 = .ok (.getfield 20, 3) := by decide +kernel
theorem dX3_foresee_137 : decode cX3_foresee 137 = .ok (.iconst 0, 1) := by decide +kernel
theorem dX3_foresee_138 : decode cX3_foresee 138 = .ok (.sipush 174, 3) := by decide +kernel
theorem dX3_foresee_141 : decode cX3_foresee 141 = .ok (.invokestatic 46, 3) := by decide +kernel
theorem dX3_foresee_144 : decode cX3_foresee 144 = .ok (.aload_n 0, 1) := by decide +kernel
theorem dX3_foresee_145 : decode cX3_foresee 145 = .ok (.iload 4, 2) := by decide +kernel
theorem dX3_foresee_147 : decode cX3_foresee 147 = .ok (.putfield 40, 3) := by decide +kernel
theorem dX3_foresee_150 : decode cX3_foresee 150 = .ok (.aload_n 0, 1) := by decide +kernel
theorem dX3_foresee_151 : decode cX3_foresee 151 = .ok (.iload 5, 2) := by decide +kernel
theorem dX3_foresee_153 : decode cX3_foresee 153 = .ok (.putfield 95, 3) := by decide +kernel
theorem dX3_foresee_156 : decode cX3_foresee 156 = .ok (.iload 6, 2) := by decide +kernel
theorem dX3_foresee_158 : decode cX3_foresee 158 = .ok (.ireturn, 1) := by decide +kernel
theorem dX3_advise_0 : decode cX3_advise 0 = .ok (.aload_n 0, 1) := by decide +kernel
theorem dX3_advise_1 : decode cX3_advise 1 = .ok (.iconst 0, 1) := by decide +kernel
theorem dX3_advise_2 : decode cX3_advise 2 = .ok (.putfield 26, 3) := by decide +kernel
theorem dX3_advise_5 : decode cX3_advise 5 = .ok (.aload_n 0, 1) := by decide +kernel
theorem dX3_advise_6 : decode cX3_advise 6 = .ok (.iload_n 1, 1) := by decide +kernel
theorem dX3_advise_7 : decode cX3_advise 7 = .ok (.invokevirtual 64, 3) := by decide +kernel
theorem dX3_advise_10 : decode cX3_advise 10 = .ok (.ifCond .ne 9, 3) := by decide +kernel
theorem dX3_advise_13 : decode cX3_advise 13 = .ok (.aload_n 0, 1) := by decide +kernel
theorem dX3_advise_14 : decode cX3_advise 14 = .ok (.iconst 1, 1) := by decide +kernel
theorem dX3_advise_15 : decode cX3_advise 15 = .ok (.invokevirtual 36, 3) := by decide +kernel
theorem dX3_advise_18 : decode cX3_advise 18 = .ok (.ireturn, 1) := by decide +kernel
theorem dX3_advise_19 : decode cX3_advise 19 = .ok (.iload_n 2, 1) := by decide +kernel
theorem dX3_advise_20 : decode cX3_advise 20 = .ok (.iconst 1, 1) := by decide +kernel
theorem dX3_advise_21 : decode cX3_advise 21 = .ok (.sipush 200, 3) := by decide +kernel
theorem dX3_advise_24 : decode cX3_advise 24 = .ok (.invokestatic 32, 3) := by decide +kernel
theorem dX3_advise_27 : decode cX3_advise 27 = .ok (.ifCond .ne 9, 3) := by decide +kernel
theorem dX3_advise_30 : decode cX3_advise 30 = .ok (.aload_n 0, 1) := by decide +kernel
theorem dX3_advise_31 : decode cX3_advise 31 = .ok (.iconst 2, 1) := by decide +kernel
theorem dX3_advise_32 : decode cX3_advise 32 = .ok (.invokevirtual 36, 3) := by decide +kernel
theorem dX3_advise_35 : decode cX3_advise 35 = .ok (.ireturn, 1) := by decide +kernel
theorem dX3_advise_36 : decode cX3_advise 36 = .ok (.aload_n 0, 1) := by decide +kernel
theorem dX3_advise_37 : decode cX3_advise 37 = .ok (.iload_n 1, 1) := by decide +kernel
theorem dX3_advise_38 : decode cX3_advise 38 = .ok (.bipush 7, 2) := by decide +kernel
theorem dX3_advise_40 : decode cX3_advise 40 = .ok (.invokevirtual 56, 3) := by decide +kernel
theorem dX3_advise_43 : decode cX3_advise 43 = .ok (.istore_n 3, 1) := by decide +kernel
theorem dX3_advise_44 : decode cX3_advise 44 = .ok (.iconst 0, 1) := by decide +kernel
theorem dX3_advise_45 : decode cX3_advise 45 = .ok (.istore 4, 2) := by decide +kernel
theorem dX3_advise_47 : decode cX3_advise 47 = .ok (.iconst (-1), 1) := by decide +kernel
theorem dX3_advise_48 : decode cX3_advise 48 = .ok (.istore 5, 2) := by decide +kernel
theorem dX3_advise_50 : decode cX3_advise 50 = .ok (.iconst 0, 1) := by decide +kernel
theorem dX3_advise_51 : decode cX3_advise 51 = .ok (.istore 6, 2) := by decide +kernel
theorem dX3_advise_53 : decode cX3_advise 53 = .ok (.iload 6, 2) := by decide +kernel
theorem dX3_advise_55 : decode cX3_advise 55 = .ok (.bipush 10, 2) := by decide +kernel
theorem dX3_advise_57 : decode cX3_advise 57 = .ok (.if_icmp .gt 45, 3) := by decide +kernel
theorem dX3_advise_60 : decode cX3_advise 60 = .ok (.aload_n 0, 1) := by decide +kernel
theorem dX3_advise_61 : decode cX3_advise 61 = .ok (.iload_n 1, 1) := by decide +kernel
theorem dX3_advise_62 : decode cX3_advise 62 = .ok (.bipush 7, 2) := by decide +kernel
theorem dX3_advise_64 : decode cX3_advise 64 = .ok (.iload 6, 2) := by decide +kernel
theorem dX3_advise_66 : decode cX3_advise 66 = .ok (.invokevirtual 52, 3) := by decide +kernel
theorem dX3_advise_69 : decode cX3_advise 69 = .ok (.aload_n 0, 1) := by decide +kernel
theorem dX3_advise_70 : decode cX3_advise 70 = .ok (.iload_n 1, 1) := by decide +kernel
theorem dX3_advise_71 : decode cX3_advise 71 = .ok (.iload_n 2, 1) := by decide +kernel
theorem dX3_advise_72 : decode cX3_advise 72 = .ok (.iconst 0, 1) := by decide +kernel
theorem dX3_advise_73 : decode cX3_advise 73 = .ok (.invokevirtual 133, 3) := by decide +kernel
theorem dX3_advise_76 : decode cX3_advise 76 = .ok (.istore 7, 2) := by decide +kernel
theorem dX3_advise_78 : decode cX3_advise 78 = .ok (.iload 7, 2) := by decide +kernel
theorem dX3_advise_80 : decode cX3_advise 80 = .ok (.iload 5, 2) := by decide +kernel
theorem dX3_advise_82 : decode cX3_advise 82 = .ok (.if_icmp .gt 6, 3) := by decide +kernel
theorem dX3_advise_85 : decode cX3_advise 85 = .ok (.goto 11, 3) := by decide +kernel
theorem dX3_advise_88 : decode cX3_advise 88 = .ok (.iload 7, 2) := by decide +kernel
theorem dX3_advise_90 : decode cX3_advise 90 = .ok (.istore 5, 2) := by decide +kernel
theorem dX3_advise_92 : decode cX3_advise 92 = .ok (.iload 6, 2) := by decide +kernel
theorem dX3_advise_94 : decode cX3_advise 94 = .ok (.istore 4, 2) := by decide +kernel
theorem dX3_advise_96 : decode cX3_advise 96 = .ok (.iinc 6 1, 3) := by decide +kernel
theorem dX3_advise_99 : decode cX3_advise 99 = .ok (.goto (-46), 3) := by decide +kernel
theorem dX3_advise_102 : decode cX3_advise 102 = .ok (.aload_n 0, 1) := by decide +kernel
theorem dX3_advise_103 : decode cX3_advise 103 = .ok (.iload_n 1, 1) := by decide +kernel
theorem dX3_advise_104 : decode cX3_advise 104 = .ok (.bipush 7, 2) := by decide +kernel
theorem dX3_advise_106 : decode cX3_advise 106 = .ok (.iload_n 3, 1) := by decide +kernel
theorem dX3_advise_107 : decode cX3_advise 107 = .ok (.invokevirtual 52, 3) := by decide +kernel
theorem dX3_advise_110 : decode cX3_advise 110 = .ok (.iload 4, 2) := by decide +kernel
theorem dX3_advise_112 : decode cX3_advise 112 = .ok (.ireturn, 1) := by decide +kernel
theorem dX3_mean_0 : decode cX3_mean 0 = .ok (.aload_n 0, 1) := by decide +kernel
theorem dX3_mean_1 : decode cX3_mean 1 = .ok (.iconst 0, 1) := by decide +kernel
theorem dX3_mean_2 : decode cX3_mean 2 = .ok (.putfield 26, 3) := by decide +kernel
theorem dX3_mean_5 : decode cX3_mean 5 = .ok (.iconst 0, 1) := by decide +kernel
theorem dX3_mean_6 : decode cX3_mean 6 = .ok (.istore_n 1, 1) := by decide +kernel
theorem dX3_mean_7 : decode cX3_mean 7 = .ok (.iconst 0, 1) := by decide +kernel
theorem dX3_mean_8 : decode cX3_mean 8 = .ok (.istore_n 2, 1) := by decide +kernel
theorem dX3_mean_9 : decode cX3_mean 9 = .ok (.iload_n 2, 1) := by decide +kernel
theorem dX3_mean_10 : decode cX3_mean 10 = .ok (.aload_n 0, 1) := by decide +kernel
theorem dX3_mean_11 : decode cX3_mean 11 = .ok (.getfield 29, 3) := by decide +kernel
theorem dX3_mean_14 : decode cX3_mean 14 = .ok (.if_icmp .ge 19, 3) := by decide +kernel
theorem dX3_mean_17 : decode cX3_mean 17 = .ok (.iload_n 1, 1) := by decide +kernel
theorem dX3_mean_18 : decode cX3_mean 18 = .ok (.aload_n 0, 1) := by decide +kernel
theorem dX3_mean_19 : decode cX3_mean 19 = .ok (.iload_n 2, 1) := by decide +kernel
theorem dX3_mean_20 : decode cX3_mean 20 = .ok (.bipush 9, 2) := by decide +kernel
theorem dX3_mean_22 : decode cX3_mean 22 = .ok (.invokevirtual 56, 3) := by decide +kernel
theorem dX3_mean_25 : decode cX3_mean 25 = .ok (.iadd, 1) := by decide +kernel
theorem dX3_mean_26 : decode cX3_mean 26 = .ok (.istore_n 1, 1) := by decide +kernel
theorem dX3_mean_27 : decode cX3_mean 27 = .ok (.iinc 2 1, 3) := by decide +kernel
theorem dX3_mean_30 : decode cX3_mean 30 = .ok (.goto (-21), 3) := by decide +kernel
theorem dX3_mean_33 : decode cX3_mean 33 = .ok (.aload_n 0, 1) := by decide +kernel
theorem dX3_mean_34 : decode cX3_mean 34 = .ok (.getfield 29, 3) := by decide +kernel
theorem dX3_mean_37 : decode cX3_mean 37 = .ok (.ifCond .ne 7, 3) := by decide +kernel
theorem dX3_mean_40 : decode cX3_mean 40 = .ok (.dconst 0, 1) := by decide +kernel
theorem dX3_mean_41 : decode cX3_mean 41 = .ok (.goto 11, 3) := by decide +kernel
theorem dX3_mean_44 : decode cX3_mean 44 = .ok (.iload_n 1, 1) := by decide +kernel
theorem dX3_mean_45 : decode cX3_mean 45 = .ok (.i2d, 1) := by decide +kernel
theorem dX3_mean_46 : decode cX3_mean 46 = .ok (.aload_n 0, 1) := by decide +kernel
theorem dX3_mean_47 : decode cX3_mean 47 = .ok (.getfield 29, 3) := by decide +kernel
theorem dX3_mean_50 : decode cX3_mean 50 = .ok (.i2d, 1) := by decide +kernel
theorem dX3_mean_51 : decode cX3_mean 51 = .ok (.ddiv, 1) := by decide +kernel
theorem dX3_mean_52 : decode cX3_mean 52 = .ok (.dreturn, 1) := by decide +kernel
theorem dX3_digest_0 : decode cX3_digest 0 = .ok (.aload_n 0, 1) := by decide +kernel
theorem dX3_digest_1 : decode cX3_digest 1 = .ok (.iconst 0, 1) := by decide +kernel
theorem dX3_digest_2 : decode cX3_digest 2 = .ok (.putfield 26, 3) := by decide +kernel
theorem dX3_digest_5 : decode cX3_digest 5 = .ok (.ldc2_w 137, 3) := by decide +kernel
theorem dX3_digest_8 : decode cX3_digest 8 = .ok (.lstore_n 1, 1) := by decide +kernel
theorem dX3_digest_9 : decode cX3_digest 9 = .ok (.iconst 0, 1) := by decide +kernel
theorem dX3_digest_10 : decode cX3_digest 10 = .ok (.istore_n 3, 1) := by decide +kernel
theorem dX3_digest_11 : decode cX3_digest 11 = .ok (.iload_n 3, 1) := by decide +kernel
theorem dX3_digest_12 : decode cX3_digest 12 = .ok (.bipush 6, 2) := by decide +kernel
theorem dX3_digest_14 : decode cX3_digest 14 = .ok (.if_icmp .ge 22, 3) := by decide +kernel
theorem dX3_digest_17 : decode cX3_digest 17 = .ok (.lload_n 1, 1) := by decide +kernel
theorem dX3_digest_18 : decode cX3_digest 18 = .ok (.ldc2_w 139, 3) := by decide +kernel
theorem dX3_digest_21 : decode cX3_digest 21 = .ok (.lmul, 1) := by decide +kernel
theorem dX3_digest_22 : decode cX3_digest 22 = .ok (.aload_n 0, 1) := by decide +kernel
theorem dX3_digest_23 : decode cX3_digest 23 = .ok (.iload_n 3, 1) := by decide +kernel
theorem dX3_digest_24 : decode cX3_digest 24 = .ok (.invokevirtual 118, 3) := by decide +kernel
theorem dX3_digest_27 : decode cX3_digest 27 = .ok (.i2l, 1) := by decide +kernel
theorem dX3_digest_28 : decode cX3_digest 28 = .ok (.ladd, 1) := by decide +kernel
theorem dX3_digest_29 : decode cX3_digest 29 = .ok (.lstore_n 1, 1) := by decide +kernel
theorem dX3_digest_30 : decode cX3_digest 30 = .ok (.iinc 3 1, 3) := by decide +kernel
theorem dX3_digest_33 : decode cX3_digest 33 = .ok (.goto (-22), 3) := by decide +kernel
theorem dX3_digest_36 : decode cX3_digest 36 = .ok (.iconst 0, 1) := by decide +kernel
theorem dX3_digest_37 : decode cX3_digest 37 = .ok (.istore_n 3, 1) := by decide +kernel
theorem dX3_digest_38 : decode cX3_digest 38 = .ok (.iload_n 3, 1) := by decide +kernel
theorem dX3_digest_39 : decode cX3_digest 39 = .ok (.aload_n 0, 1) := by decide +kernel
theorem dX3_digest_40 : decode cX3_digest 40 = .ok (.getfield 29, 3) := by decide +kernel
theorem dX3_digest_43 : decode cX3_digest 43 = .ok (.if_icmp .ge 94, 3) := by decide +kernel
theorem dX3_digest_46 : decode cX3_digest 46 = .ok (.iconst 0, 1) := by decide +kernel
theorem dX3_digest_47 : decode cX3_digest 47 = .ok (.istore 4, 2) := by decide +kernel
theorem dX3_digest_49 : decode cX3_digest 49 = .ok (.iload 4, 2) := by decide +kernel
theorem dX3_digest_51 : decode cX3_digest 51 = .ok (.bipush 12, 2) := by decide +kernel
theorem dX3_digest_53 : decode cX3_digest 53 = .ok (.if_icmp .ge 24, 3) := by decide +kernel
theorem dX3_digest_56 : decode cX3_digest 56 = .ok (.lload_n 1, 1) := by decide +kernel
theorem dX3_digest_57 : decode cX3_digest 57 = .ok (.ldc2_w 139, 3) := by decide +kernel
theorem dX3_digest_60 : decode cX3_digest 60 = .ok (.lmul, 1) := by decide +kernel
theorem dX3_digest_61 : decode cX3_digest 61 = .ok (.aload_n 0, 1) := by decide +kernel
theorem dX3_digest_62 : decode cX3_digest 62 = .ok (.iload_n 3, 1) := by decide +kernel
theorem dX3_digest_63 : decode cX3_digest 63 = .ok (.iload 4, 2) := by decide +kernel
theorem dX3_digest_65 : decode cX3_digest 65 = .ok (.invokevirtual 121, 3) := by decide +kernel
theorem dX3_digest_68 : decode cX3_digest 68 = .ok (.i2l, 1) := by decide +kernel
theorem dX3_digest_69 : decode cX3_digest 69 = .ok (.ladd, 1) := by decide +kernel
theorem dX3_digest_70 : decode cX3_digest 70 = .ok (.lstore_n 1, 1) := by decide +kernel
theorem dX3_digest_71 : decode cX3_digest 71 = .ok (.iinc 4 1, 3) := by decide +kernel
theorem dX3_digest_74 : decode cX3_digest 74 = .ok (.goto (-25), 3) := by decide +kernel
theorem dX3_digest_77 : decode cX3_digest 77 = .ok (.iconst 0, 1) := by decide +kernel
theorem dX3_digest_78 : decode cX3_digest 78 = .ok (.istore 4, 2) := by decide +kernel
theorem dX3_digest_80 : decode cX3_digest 80 = .ok (.iload 4, 2) := by decide +kernel
theorem dX3_digest_82 : decode cX3_digest 82 = .ok (.aload_n 0, 1) := by decide +kernel
theorem dX3_digest_83 : decode cX3_digest 83 = .ok (.iload_n 3, 1) := by decide +kernel
theorem dX3_digest_84 : decode cX3_digest 84 = .ok (.iconst 2, 1) := by decide +kernel
theorem dX3_digest_85 : decode cX3_digest 85 = .ok (.invokevirtual 56, 3) := by decide +kernel
theorem dX3_digest_88 : decode cX3_digest 88 = .ok (.if_icmp .ge 43, 3) := by decide +kernel
theorem dX3_digest_91 : decode cX3_digest 91 = .ok (.lload_n 1, 1) := by decide +kernel
theorem dX3_digest_92 : decode cX3_digest 92 = .ok (.ldc2_w 139, 3) := by decide +kernel
theorem dX3_digest_95 : decode cX3_digest 95 = .ok (.lmul, 1) := by decide +kernel
theorem dX3_digest_96 : decode cX3_digest 96 = .ok (.aload_n 0, 1) := by decide +kernel
theorem dX3_digest_97 : decode cX3_digest 97 = .ok (.iload_n 3, 1) := by decide +kernel
theorem dX3_digest_98 : decode cX3_digest 98 = .ok (.iload 4, 2) := by decide +kernel
theorem dX3_digest_100 : decode cX3_digest 100 = .ok (.invokevirtual 68, 3) := by decide +kernel
theorem dX3_digest_103 : decode cX3_digest 103 = .ok (.ifCond .eq 9, 3) := by decide +kernel
theorem dX3_digest_106 : decode cX3_digest 106 = .ok (.sipush (-9999), 3) := by decide +kernel
theorem dX3_digest_109 : decode cX3_digest 109 = .ok (.goto 13, 3) := by decide +kernel
theorem dX3_digest_112 : decode cX3_digest 112 = .ok (.aload_n 0, 1) := by decide +kernel
theorem dX3_digest_113 : decode cX3_digest 113 = .ok (.iload_n 3, 1) := by decide +kernel
theorem dX3_digest_114 : decode cX3_digest 114 = .ok (.bipush 15, 2) := by decide +kernel
theorem dX3_digest_116 : decode cX3_digest 116 = .ok (.iload 4, 2) := by decide +kernel
theorem dX3_digest_118 : decode cX3_digest 118 = .ok (.iadd, 1) := by decide +kernel
theorem dX3_digest_119 : decode cX3_digest 119 = .ok (.invokevirtual 56, 3) := by decide +kernel
theorem dX3_digest_122 : decode cX3_digest 122 = .ok (.i2l, 1) := by decide +kernel
theorem dX3_digest_123 : decode cX3_digest 123 = .ok (.ladd, 1) := by decide +kernel
theorem dX3_digest_124 : decode cX3_digest 124 = .ok (.lstore_n 1, 1) := by decide +kernel
theorem dX3_digest_125 : decode cX3_digest 125 = .ok (.iinc 4 1, 3) := by decide +kernel
theorem dX3_digest_128 : decode cX3_digest 128 = .ok (.goto (-48), 3) := by decide +kernel
theorem dX3_digest_131 : decode cX3_digest 131 = .ok (.iinc 3 1, 3) := by decide +kernel
theorem dX3_digest_134 : decode cX3_digest 134 = .ok (.goto (-96), 3) := by decide +kernel
theorem dX3_digest_137 : decode cX3_digest 137 = .ok (.iconst 0, 1) := by decide +kernel
theorem dX3_digest_138 : decode cX3_digest 138 = .ok (.istore_n 3, 1) := by decide +kernel
theorem dX3_digest_139 : decode cX3_digest 139 = .ok (.iload_n 3, 1) := by decide +kernel
theorem dX3_digest_140 : decode cX3_digest 140 = .ok (.aload_n 0, 1) := by decide +kernel
theorem dX3_digest_141 : decode cX3_digest 141 = .ok (.getfield 29, 3) := by decide +kernel
theorem dX3_digest_144 : decode cX3_digest 144 = .ok (.if_icmp .ge 22, 3) := by decide +kernel
theorem dX3_digest_147 : decode cX3_digest 147 = .ok (.lload_n 1, 1) := by decide +kernel
theorem dX3_digest_148 : decode cX3_digest 148 = .ok (.ldc2_w 139, 3) := by decide +kernel
theorem dX3_digest_151 : decode cX3_digest 151 = .ok (.lmul, 1) := by decide +kernel
theorem dX3_digest_152 : decode cX3_digest 152 = .ok (.aload_n 0, 1) := by decide +kernel
theorem dX3_digest_153 : decode cX3_digest 153 = .ok (.iload_n 3, 1) := by decide +kernel
theorem dX3_digest_154 : decode cX3_digest 154 = .ok (.invokevirtual 130, 3) := by decide +kernel
theorem dX3_digest_157 : decode cX3_digest 157 = .ok (.i2l, 1) := by decide +kernel
theorem dX3_digest_158 : decode cX3_digest 158 = .ok (.ladd, 1) := by decide +kernel
theorem dX3_digest_159 : decode cX3_digest 159 = .ok (.lstore_n 1, 1) := by decide +kernel
theorem dX3_digest_160 : decode cX3_digest 160 = .ok (.iinc 3 1, 3) := by decide +kernel
theorem dX3_digest_163 : decode cX3_digest 163 = .ok (.goto (-24), 3) := by decide +kernel
theorem dX3_digest_166 : decode cX3_digest 166 = .ok (.lload_n 1, 1) := by decide +kernel
theorem dX3_digest_167 : decode cX3_digest 167 = .ok (.lreturn, 1) := by decide +kernel
end
section
set_option maxRecDepth 20000 in
theorem ggX3_isTeam_X3_isIn : GoodIn wsX3_isTeam wsX3_isIn := goodIn_r _ [5] (by decide +kernel) (by decide +kernel)
set_option maxRecDepth 20000 in
theorem gX3_isTeam_X3_isIn : GoodIn wsX3_isTeam (va_wsS RX3 32 yX3_isIn wsX3_isIn) := goodIn_app (goodIn_of _ (by decide +kernel)) ggX3_isTeam_X3_isIn
set_option maxRecDepth 20000 in
theorem ggX3_setLength_X3_isIn : GoodIn wsX3_setLength wsX3_isIn := goodIn_r _ [7] (by decide +kernel) (by decide +kernel)
set_option maxRecDepth 20000 in
theorem gX3_setLength_X3_isIn : GoodIn wsX3_setLength (va_wsS RX3 32 yX3_isIn wsX3_isIn) := goodIn_app (goodIn_of _ (by decide +kernel)) ggX3_setLength_X3_isIn
set_option maxRecDepth 20000 in
theorem ggX3_setLength_X3_fail : GoodIn wsX3_setLength wsX3_fail := goodIn_r _ [11, 1, 12, 13, 14, 15, 16, 17, 18, 19, 20] (by decide +kernel) (by decide +kernel)
set_option maxRecDepth 20000 in
theorem gX3_setLength_X3_fail : GoodIn wsX3_setLength (wsV RX3 36 RX3 yX3_fail wsX3_fail) := goodIn_app (goodIn_of _ (by decide +kernel)) ggX3_setLength_X3_fail
set_option maxRecDepth 20000 in
theorem ggX3_lay_X3_isIn : GoodIn wsX3_lay wsX3_isIn := goodIn_r _ [12] (by decide +kernel) (by decide +kernel)
set_option maxRecDepth 20000 in
theorem gX3_lay_X3_isIn : GoodIn wsX3_lay (va_wsS RX3 32 yX3_isIn wsX3_isIn) := goodIn_app (goodIn_of _ (by decide +kernel)) ggX3_lay_X3_isIn
set_option maxRecDepth 20000 in
theorem ggX3_lay_X3_fail : GoodIn wsX3_lay wsX3_fail := goodIn_r _ [16, 1, 21, 22, 23, 24, 25, 26, 27, 28, 29] (by decide +kernel) (by decide +kernel)
set_option maxRecDepth 20000 in
theorem gX3_lay_X3_fail : GoodIn wsX3_lay (wsV RX3 36 RX3 yX3_fail wsX3_fail) := goodIn_app (goodIn_of _ (by decide +kernel)) ggX3_lay_X3_fail
set_option maxRecDepth 20000 in
theorem ggX3_lay_X3_stretchAt : GoodIn wsX3_lay wsX3_stretchAt := goodIn_r _ [20, 3, 2, 21, 22, 23, 24, 25, 26, 27, 28, 29] (by decide +kernel) (by decide +kernel)
set_option maxRecDepth 20000 in
theorem gX3_lay_X3_stretchAt : GoodIn wsX3_lay (wsV RX3 43 RX3 yX3_stretchAt wsX3_stretchAt) := goodIn_app (goodIn_of _ (by decide +kernel)) ggX3_lay_X3_stretchAt
set_option maxRecDepth 20000 in
theorem ggX3_ground_X3_isIn : GoodIn wsX3_ground wsX3_isIn := goodIn_r _ [6] (by decide +kernel) (by decide +kernel)
set_option maxRecDepth 20000 in
theorem gX3_ground_X3_isIn : GoodIn wsX3_ground (va_wsS RX3 32 yX3_isIn wsX3_isIn) := goodIn_app (goodIn_of _ (by decide +kernel)) ggX3_ground_X3_isIn
set_option maxRecDepth 20000 in
theorem ggX3_ground_X3_stretchAt : GoodIn wsX3_ground wsX3_stretchAt := goodIn_r _ [10, 11, 2, 16, 17, 18, 19, 20, 21, 22, 23, 24] (by decide +kernel) (by decide +kernel)
set_option maxRecDepth 20000 in
theorem gX3_ground_X3_stretchAt : GoodIn wsX3_ground (wsV RX3 43 RX3 yX3_stretchAt wsX3_stretchAt) := goodIn_app (goodIn_of _ (by decide +kernel)) ggX3_ground_X3_stretchAt
set_option maxRecDepth 20000 in
theorem ggX3_ground_X3_fail : GoodIn wsX3_ground wsX3_fail := goodIn_r _ [15, 1, 16, 17, 18, 19, 20, 21, 22, 23, 24] (by decide +kernel) (by decide +kernel)
set_option maxRecDepth 20000 in
theorem gX3_ground_X3_fail : GoodIn wsX3_ground (wsV RX3 36 RX3 yX3_fail wsX3_fail) := goodIn_app (goodIn_of _ (by decide +kernel)) ggX3_ground_X3_fail
set_option maxRecDepth 20000 in
theorem ggX3_begin_X3_set : GoodIn wsX3_begin wsX3_set := goodIn_r _ [5, 6, 11, 12, 13, 14, 15, 16, 17, 18, 19] (by decide +kernel) (by decide +kernel)
set_option maxRecDepth 20000 in
theorem gX3_begin_X3_set : GoodIn wsX3_begin (wsV RX3 52 RX3 yX3_set wsX3_set) := goodIn_app (goodIn_of _ (by decide +kernel)) ggX3_begin_X3_set
set_option maxRecDepth 20000 in
theorem ggX3_begin_X3_get : GoodIn wsX3_begin wsX3_get := goodIn_r _ [10, 6, 11, 12, 13, 14, 15, 16, 17, 18, 19] (by decide +kernel) (by decide +kernel)
set_option maxRecDepth 20000 in
theorem gX3_begin_X3_get : GoodIn wsX3_begin (wsV RX3 56 RX3 yX3_get wsX3_get) := goodIn_app (goodIn_of _ (by decide +kernel)) ggX3_begin_X3_get
set_option maxRecDepth 20000 in
theorem ggX3_addTeam_X3_isIn : GoodIn wsX3_addTeam wsX3_isIn := goodIn_r _ [13] (by decide +kernel) (by decide +kernel)
set_option maxRecDepth 20000 in
theorem gX3_addTeam_X3_isIn : GoodIn wsX3_addTeam (va_wsS RX3 32 yX3_isIn wsX3_isIn) := goodIn_app (goodIn_of _ (by decide +kernel)) ggX3_addTeam_X3_isIn
set_option maxRecDepth 20000 in
theorem ggX3_addTeam_X3_fail : GoodIn wsX3_addTeam wsX3_fail := goodIn_r _ [17, 1, 30, 31, 32, 33, 34, 35, 36, 37, 38] (by decide +kernel) (by decide +kernel)
set_option maxRecDepth 20000 in
theorem gX3_addTeam_X3_fail : GoodIn wsX3_addTeam (wsV RX3 36 RX3 yX3_fail wsX3_fail) := goodIn_app (goodIn_of _ (by decide +kernel)) ggX3_addTeam_X3_fail
set_option maxRecDepth 20000 in
theorem ggX3_addTeam_X3_begin : GoodIn wsX3_addTeam wsX3_begin := goodIn_r _ [21, 22, 23, 24, 12, 25, 5, 26, 27, 28, 29, 30, 31, 32, 33, 34, 35, 36, 37, 38] (by decide +kernel) (by decide +kernel)
set_option maxRecDepth 20000 in
theorem gX3_addTeam_X3_begin : GoodIn wsX3_addTeam (wsV RX3 60 RX3 yX3_begin wsX3_begin) := goodIn_app (goodIn_of _ (by decide +kernel)) ggX3_addTeam_X3_begin
set_option maxRecDepth 20000 in
theorem ggX3_setCrew_X3_isTeam : GoodIn wsX3_setCrew wsX3_isTeam := goodIn_r _ [13, 14, 15, 16, 12, 17, 30, 31, 32, 33, 34, 35, 36, 37, 38] (by decide +kernel) (by decide +kernel)
set_option maxRecDepth 20000 in
theorem gX3_setCrew_X3_isTeam : GoodIn wsX3_setCrew (wsV RX3 64 RX3 yX3_isTeam wsX3_isTeam) := goodIn_app (goodIn_of _ (by decide +kernel)) ggX3_setCrew_X3_isTeam
set_option maxRecDepth 20000 in
theorem ggX3_setCrew_X3_fail : GoodIn wsX3_setCrew wsX3_fail := goodIn_r _ [21, 1, 30, 31, 32, 33, 34, 35, 36, 37, 38] (by decide +kernel) (by decide +kernel)
set_option maxRecDepth 20000 in
theorem gX3_setCrew_X3_fail : GoodIn wsX3_setCrew (wsV RX3 36 RX3 yX3_fail wsX3_fail) := goodIn_app (goodIn_of _ (by decide +kernel)) ggX3_setCrew_X3_fail
set_option maxRecDepth 20000 in
theorem ggX3_setCrew_X3_isIn : GoodIn wsX3_setCrew wsX3_isIn := goodIn_r _ [17] (by decide +kernel) (by decide +kernel)
set_option maxRecDepth 20000 in
theorem gX3_setCrew_X3_isIn : GoodIn wsX3_setCrew (va_wsS RX3 32 yX3_isIn wsX3_isIn) := goodIn_app (goodIn_of _ (by decide +kernel)) ggX3_setCrew_X3_isIn
set_option maxRecDepth 20000 in
theorem ggX3_setCrew_X3_get : GoodIn wsX3_setCrew wsX3_get := goodIn_r _ [25, 4, 30, 31, 32, 33, 34, 35, 36, 37, 38] (by decide +kernel) (by decide +kernel)
set_option maxRecDepth 20000 in
theorem gX3_setCrew_X3_get : GoodIn wsX3_setCrew (wsV RX3 56 RX3 yX3_get wsX3_get) := goodIn_app (goodIn_of _ (by decide +kernel)) ggX3_setCrew_X3_get
set_option maxRecDepth 20000 in
theorem ggX3_setCrew_X3_set : GoodIn wsX3_setCrew wsX3_set := goodIn_r _ [29, 4, 30, 31, 32, 33, 34, 35, 36, 37, 38] (by decide +kernel) (by decide +kernel)
set_option maxRecDepth 20000 in
theorem gX3_setCrew_X3_set : GoodIn wsX3_setCrew (wsV RX3 52 RX3 yX3_set wsX3_set) := goodIn_app (goodIn_of _ (by decide +kernel)) ggX3_setCrew_X3_set
set_option maxRecDepth 20000 in
theorem ggX3_order_X3_isTeam : GoodIn wsX3_order wsX3_isTeam := goodIn_r _ [6, 7, 8, 9, 5, 10, 24, 25, 26, 27, 28, 29, 30, 31, 32] (by decide +kernel) (by decide +kernel)
set_option maxRecDepth 20000 in
theorem gX3_order_X3_isTeam : GoodIn wsX3_order (wsV RX3 64 RX3 yX3_isTeam wsX3_isTeam) := goodIn_app (goodIn_of _ (by decide +kernel)) ggX3_order_X3_isTeam
set_option maxRecDepth 20000 in
theorem ggX3_order_X3_fail : GoodIn wsX3_order wsX3_fail := goodIn_r _ [14, 1, 24, 25, 26, 27, 28, 29, 30, 31, 32] (by decide +kernel) (by decide +kernel)
set_option maxRecDepth 20000 in
theorem gX3_order_X3_fail : GoodIn wsX3_order (wsV RX3 36 RX3 yX3_fail wsX3_fail) := goodIn_app (goodIn_of _ (by decide +kernel)) ggX3_order_X3_fail
set_option maxRecDepth 20000 in
theorem ggX3_order_X3_isIn : GoodIn wsX3_order wsX3_isIn := goodIn_r _ [10] (by decide +kernel) (by decide +kernel)
set_option maxRecDepth 20000 in
theorem gX3_order_X3_isIn : GoodIn wsX3_order (va_wsS RX3 32 yX3_isIn wsX3_isIn) := goodIn_app (goodIn_of _ (by decide +kernel)) ggX3_order_X3_isIn
set_option maxRecDepth 20000 in
theorem ggX3_order_X3_get : GoodIn wsX3_order wsX3_get := goodIn_r _ [18, 19, 24, 25, 26, 27, 28, 29, 30, 31, 32] (by decide +kernel) (by decide +kernel)
set_option maxRecDepth 20000 in
theorem gX3_order_X3_get : GoodIn wsX3_order (wsV RX3 56 RX3 yX3_get wsX3_get) := goodIn_app (goodIn_of _ (by decide +kernel)) ggX3_order_X3_get
set_option maxRecDepth 20000 in
theorem ggX3_order_X3_set : GoodIn wsX3_order wsX3_set := goodIn_r _ [23, 19, 24, 25, 26, 27, 28, 29, 30, 31, 32] (by decide +kernel) (by decide +kernel)
set_option maxRecDepth 20000 in
theorem gX3_order_X3_set : GoodIn wsX3_order (wsV RX3 52 RX3 yX3_set wsX3_set) := goodIn_app (goodIn_of _ (by decide +kernel)) ggX3_order_X3_set
set_option maxRecDepth 20000 in
theorem ggX3_isCarried_X3_get : GoodIn wsX3_isCarried wsX3_get := goodIn_r _ [5, 6, 7, 8, 9, 10, 11, 12, 13, 14, 15] (by decide +kernel) (by decide +kernel)
set_option maxRecDepth 20000 in
theorem gX3_isCarried_X3_get : GoodIn wsX3_isCarried (wsV RX3 56 RX3 yX3_get wsX3_get) := goodIn_app (goodIn_of _ (by decide +kernel)) ggX3_isCarried_X3_get
set_option maxRecDepth 20000 in
theorem ggX3_where_X3_get : GoodIn wsX3_where wsX3_get := goodIn_r _ [5, 6, 11, 12, 13, 14, 15, 16, 17, 18, 19] (by decide +kernel) (by decide +kernel)
set_option maxRecDepth 20000 in
theorem gX3_where_X3_get : GoodIn wsX3_where (wsV RX3 56 RX3 yX3_get wsX3_get) := goodIn_app (goodIn_of _ (by decide +kernel)) ggX3_where_X3_get
set_option maxRecDepth 20000 in
theorem ggX3_where_X3_isCarried : GoodIn wsX3_where wsX3_isCarried := goodIn_r _ [10, 1, 2, 3, 4, 5, 6, 11, 12, 13, 14, 15, 16, 17, 18, 19] (by decide +kernel) (by decide +kernel)
set_option maxRecDepth 20000 in
theorem gX3_where_X3_isCarried : GoodIn wsX3_where (wsV RX3 68 RX3 yX3_isCarried wsX3_isCarried) := goodIn_app (goodIn_of _ (by decide +kernel)) ggX3_where_X3_isCarried
set_option maxRecDepth 20000 in
theorem ggX3_many_X3_get : GoodIn wsX3_many wsX3_get := goodIn_r _ [5, 6, 15, 16, 17, 18, 19, 20, 21, 22, 23] (by decide +kernel) (by decide +kernel)
set_option maxRecDepth 20000 in
theorem gX3_many_X3_get : GoodIn wsX3_many (wsV RX3 56 RX3 yX3_get wsX3_get) := goodIn_app (goodIn_of _ (by decide +kernel)) ggX3_many_X3_get
set_option maxRecDepth 20000 in
theorem ggX3_many_X3_where : GoodIn wsX3_many wsX3_where := goodIn_r _ [10, 1, 2, 3, 4, 5, 6, 11, 12, 13, 14, 15, 16, 17, 18, 19, 20, 21, 22, 23] (by decide +kernel) (by decide +kernel)
set_option maxRecDepth 20000 in
theorem gX3_many_X3_where : GoodIn wsX3_many (wsV RX3 72 RX3 yX3_where wsX3_where) := goodIn_app (goodIn_of _ (by decide +kernel)) ggX3_many_X3_where
set_option maxRecDepth 20000 in
theorem ggX3_pull_X3_get : GoodIn wsX3_pull wsX3_get := goodIn_r _ [5, 6, 7, 8, 9, 10, 11, 12, 13, 14, 15] (by decide +kernel) (by decide +kernel)
set_option maxRecDepth 20000 in
theorem gX3_pull_X3_get : GoodIn wsX3_pull (wsV RX3 56 RX3 yX3_get wsX3_get) := goodIn_app (goodIn_of _ (by decide +kernel)) ggX3_pull_X3_get
set_option maxRecDepth 20000 in
theorem ggX3_drag_X3_get : GoodIn wsX3_drag wsX3_get := goodIn_r _ [13, 14, 32, 33, 34, 35, 36, 37, 38, 39, 40] (by decide +kernel) (by decide +kernel)
set_option maxRecDepth 20000 in
theorem gX3_drag_X3_get : GoodIn wsX3_drag (wsV RX3 56 RX3 yX3_get wsX3_get) := goodIn_app (goodIn_of _ (by decide +kernel)) ggX3_drag_X3_get
set_option maxRecDepth 20000 in
theorem ggX3_drag_X3_stretchAt : GoodIn wsX3_drag wsX3_stretchAt := goodIn_r _ [18, 19, 1, 32, 33, 34, 35, 36, 37, 38, 39, 40] (by decide +kernel) (by decide +kernel)
set_option maxRecDepth 20000 in
theorem gX3_drag_X3_stretchAt : GoodIn wsX3_drag (wsV RX3 43 RX3 yX3_stretchAt wsX3_stretchAt) := goodIn_app (goodIn_of _ (by decide +kernel)) ggX3_drag_X3_stretchAt
set_option maxRecDepth 20000 in
theorem ggX3_drag_X3_many : GoodIn wsX3_drag wsX3_many := goodIn_r _ [23, 9, 10, 11, 12, 13, 14, 24, 25, 26, 27, 28, 29, 30, 31, 32, 33, 34, 35, 36, 37, 38, 39, 40] (by decide +kernel) (by decide +kernel)
set_option maxRecDepth 20000 in
theorem gX3_drag_X3_many : GoodIn wsX3_drag (wsV RX3 75 RX3 yX3_many wsX3_many) := goodIn_app (goodIn_of _ (by decide +kernel)) ggX3_drag_X3_many
set_option maxRecDepth 20000 in
theorem ggX3_way_X3_pull : GoodIn wsX3_way wsX3_pull := goodIn_r _ [12, 13, 14, 15, 11, 16, 17, 40, 41, 42, 43, 44, 45, 46, 47, 48] (by decide +kernel) (by decide +kernel)
set_option maxRecDepth 20000 in
theorem gX3_way_X3_pull : GoodIn wsX3_way (wsV RX3 86 RX3 yX3_pull wsX3_pull) := goodIn_app (goodIn_of _ (by decide +kernel)) ggX3_way_X3_pull
set_option maxRecDepth 20000 in
theorem ggX3_way_X3_drag : GoodIn wsX3_way wsX3_drag := goodIn_r _ [21, 22, 5, 6, 3, 7, 1, 2, 4, 13, 14, 15, 11, 16, 17, 23, 24, 25, 26, 27, 28, 29, 30, 31, 32, 33, 34, 35, 36, 37, 38, 39, 40, 41, 42, 43, 44, 45, 46, 47, 48] (by decide +kernel) (by decide +kernel)
set_option maxRecDepth 20000 in
theorem gX3_way_X3_drag : GoodIn wsX3_way (wsV RX3 89 RX3 yX3_drag wsX3_drag) := goodIn_app (goodIn_of _ (by decide +kernel)) ggX3_way_X3_drag
set_option maxRecDepth 20000 in
theorem ggX3_way_X3_get : GoodIn wsX3_way wsX3_get := goodIn_r _ [16, 17, 40, 41, 42, 43, 44, 45, 46, 47, 48] (by decide +kernel) (by decide +kernel)
set_option maxRecDepth 20000 in
theorem gX3_way_X3_get : GoodIn wsX3_way (wsV RX3 56 RX3 yX3_get wsX3_get) := goodIn_app (goodIn_of _ (by decide +kernel)) ggX3_way_X3_get
set_option maxRecDepth 20000 in
theorem ggX3_roll_X3_way : GoodIn wsX3_roll wsX3_way := goodIn_r _ [5, 6, 7, 8, 9, 10, 11, 12, 13, 14, 15, 4, 16, 17, 18, 19, 20, 21, 22, 23, 24, 25, 26, 27, 28, 29, 30, 31, 32, 33, 34, 35, 36, 37, 38, 39, 40, 41, 42, 43, 48, 49, 50, 51, 52, 53, 54, 55, 56] (by decide +kernel) (by decide +kernel)
set_option maxRecDepth 20000 in
theorem gX3_roll_X3_way : GoodIn wsX3_roll (wsV RX3 92 RX3 yX3_way wsX3_way) := goodIn_app (goodIn_of _ (by decide +kernel)) ggX3_roll_X3_way
set_option maxRecDepth 20000 in
theorem ggX3_roll_X3_get : GoodIn wsX3_roll wsX3_get := goodIn_r _ [20, 21, 48, 49, 50, 51, 52, 53, 54, 55, 56] (by decide +kernel) (by decide +kernel)
set_option maxRecDepth 20000 in
theorem gX3_roll_X3_get : GoodIn wsX3_roll (wsV RX3 56 RX3 yX3_get wsX3_get) := goodIn_app (goodIn_of _ (by decide +kernel)) ggX3_roll_X3_get
set_option maxRecDepth 20000 in
theorem ggX3_roll_X3_where : GoodIn wsX3_roll wsX3_where := goodIn_r _ [39, 17, 18, 19, 4, 20, 21, 40, 41, 42, 43, 48, 49, 50, 51, 52, 53, 54, 55, 56] (by decide +kernel) (by decide +kernel)
set_option maxRecDepth 20000 in
theorem gX3_roll_X3_where : GoodIn wsX3_roll (wsV RX3 72 RX3 yX3_where wsX3_where) := goodIn_app (goodIn_of _ (by decide +kernel)) ggX3_roll_X3_where
set_option maxRecDepth 20000 in
theorem ggX3_roll_X3_set : GoodIn wsX3_roll wsX3_set := goodIn_r _ [47, 21, 48, 49, 50, 51, 52, 53, 54, 55, 56] (by decide +kernel) (by decide +kernel)
set_option maxRecDepth 20000 in
theorem gX3_roll_X3_set : GoodIn wsX3_roll (wsV RX3 52 RX3 yX3_set wsX3_set) := goodIn_app (goodIn_of _ (by decide +kernel)) ggX3_roll_X3_set
set_option maxRecDepth 20000 in
theorem ggX3_runner_X3_get : GoodIn wsX3_runner wsX3_get := goodIn_r _ [5, 6, 19, 20, 21, 22, 23, 24, 25, 26, 27] (by decide +kernel) (by decide +kernel)
set_option maxRecDepth 20000 in
theorem gX3_runner_X3_get : GoodIn wsX3_runner (wsV RX3 56 RX3 yX3_get wsX3_get) := goodIn_app (goodIn_of _ (by decide +kernel)) ggX3_runner_X3_get
set_option maxRecDepth 20000 in
theorem ggX3_runner_X3_set : GoodIn wsX3_runner wsX3_set := goodIn_r _ [10, 6, 19, 20, 21, 22, 23, 24, 25, 26, 27] (by decide +kernel) (by decide +kernel)
set_option maxRecDepth 20000 in
theorem gX3_runner_X3_set : GoodIn wsX3_runner (wsV RX3 52 RX3 yX3_set wsX3_set) := goodIn_app (goodIn_of _ (by decide +kernel)) ggX3_runner_X3_set
set_option maxRecDepth 20000 in
theorem ggX3_runner_X3_where : GoodIn wsX3_runner wsX3_where := goodIn_r _ [14, 1, 2, 3, 4, 5, 6, 15, 16, 17, 18, 19, 20, 21, 22, 23, 24, 25, 26, 27] (by decide +kernel) (by decide +kernel)
set_option maxRecDepth 20000 in
theorem gX3_runner_X3_where : GoodIn wsX3_runner (wsV RX3 72 RX3 yX3_where wsX3_where) := goodIn_app (goodIn_of _ (by decide +kernel)) ggX3_runner_X3_where
set_option maxRecDepth 20000 in
theorem ggX3_breathe_X3_get : GoodIn wsX3_breathe wsX3_get := goodIn_r _ [12, 13, 18, 19, 20, 21, 22, 23, 24, 25, 26] (by decide +kernel) (by decide +kernel)
set_option maxRecDepth 20000 in
theorem gX3_breathe_X3_get : GoodIn wsX3_breathe (wsV RX3 56 RX3 yX3_get wsX3_get) := goodIn_app (goodIn_of _ (by decide +kernel)) ggX3_breathe_X3_get
set_option maxRecDepth 20000 in
theorem ggX3_breathe_X3_set : GoodIn wsX3_breathe wsX3_set := goodIn_r _ [17, 13, 18, 19, 20, 21, 22, 23, 24, 25, 26] (by decide +kernel) (by decide +kernel)
set_option maxRecDepth 20000 in
theorem gX3_breathe_X3_set : GoodIn wsX3_breathe (wsV RX3 52 RX3 yX3_set wsX3_set) := goodIn_app (goodIn_of _ (by decide +kernel)) ggX3_breathe_X3_set
set_option maxRecDepth 20000 in
theorem ggX3_tickOf_X3_get : GoodIn wsX3_tickOf wsX3_get := goodIn_r _ [12, 13, 63, 64, 65, 66, 67, 68, 69, 70, 71] (by decide +kernel) (by decide +kernel)
set_option maxRecDepth 20000 in
theorem gX3_tickOf_X3_get : GoodIn wsX3_tickOf (wsV RX3 56 RX3 yX3_get wsX3_get) := goodIn_app (goodIn_of _ (by decide +kernel)) ggX3_tickOf_X3_get
set_option maxRecDepth 20000 in
theorem ggX3_tickOf_X3_pull : GoodIn wsX3_tickOf wsX3_pull := goodIn_r _ [17, 8, 9, 10, 11, 12, 13, 63, 64, 65, 66, 67, 68, 69, 70, 71] (by decide +kernel) (by decide +kernel)
set_option maxRecDepth 20000 in
theorem gX3_tickOf_X3_pull : GoodIn wsX3_tickOf (wsV RX3 86 RX3 yX3_pull wsX3_pull) := goodIn_app (goodIn_of _ (by decide +kernel)) ggX3_tickOf_X3_pull
set_option maxRecDepth 20000 in
theorem ggX3_tickOf_X3_set : GoodIn wsX3_tickOf wsX3_set := goodIn_r _ [21, 13, 63, 64, 65, 66, 67, 68, 69, 70, 71] (by decide +kernel) (by decide +kernel)
set_option maxRecDepth 20000 in
theorem gX3_tickOf_X3_set : GoodIn wsX3_tickOf (wsV RX3 52 RX3 yX3_set wsX3_set) := goodIn_app (goodIn_of _ (by decide +kernel)) ggX3_tickOf_X3_set
set_option maxRecDepth 20000 in
theorem ggX3_tickOf_X3_breathe : GoodIn wsX3_tickOf wsX3_breathe := goodIn_r _ [25, 26, 27, 3, 28, 1, 2, 4, 8, 9, 10, 11, 12, 13, 18, 19, 20, 21, 63, 64, 65, 66, 67, 68, 69, 70, 71] (by decide +kernel) (by decide +kernel)
set_option maxRecDepth 20000 in
theorem gX3_tickOf_X3_breathe : GoodIn wsX3_tickOf (wsV RX3 98 RX3 yX3_breathe wsX3_breathe) := goodIn_app (goodIn_of _ (by decide +kernel)) ggX3_tickOf_X3_breathe
set_option maxRecDepth 20000 in
theorem ggX3_tickOf_X3_roll : GoodIn wsX3_tickOf wsX3_roll := goodIn_r _ [32, 33, 34, 35, 11, 36, 26, 27, 3, 28, 1, 2, 4, 14, 15, 16, 17, 8, 9, 10, 12, 13, 37, 38, 39, 40, 41, 42, 43, 44, 45, 46, 47, 48, 49, 50, 51, 52, 53, 54, 55, 56, 57, 58, 18, 19, 20, 21, 63, 64, 65, 66, 67, 68, 69, 70, 71] (by decide +kernel) (by decide +kernel)
set_option maxRecDepth 20000 in
theorem gX3_tickOf_X3_roll : GoodIn wsX3_tickOf (wsV RX3 102 RX3 yX3_roll wsX3_roll) := goodIn_app (goodIn_of _ (by decide +kernel)) ggX3_tickOf_X3_roll
set_option maxRecDepth 20000 in
theorem ggX3_tickOf_X3_runner : GoodIn wsX3_tickOf wsX3_runner := goodIn_r _ [62, 8, 9, 10, 11, 12, 13, 18, 19, 20, 21, 51, 52, 53, 54, 55, 56, 57, 58, 63, 64, 65, 66, 67, 68, 69, 70, 71] (by decide +kernel) (by decide +kernel)
set_option maxRecDepth 20000 in
theorem gX3_tickOf_X3_runner : GoodIn wsX3_tickOf (wsV RX3 105 RX3 yX3_runner wsX3_runner) := goodIn_app (goodIn_of _ (by decide +kernel)) ggX3_tickOf_X3_runner
set_option maxRecDepth 20000 in
theorem ggX3_tickOn_X3_tickOf : GoodIn wsX3_tickOn wsX3_tickOf := goodIn_r _ [7, 8, 9, 10, 11, 12, 13, 1, 14, 15, 16, 6, 17, 18, 19, 20, 21, 22, 23, 24, 25, 26, 27, 28, 29, 30, 31, 32, 33, 34, 35, 36, 37, 38, 39, 40, 41, 42, 43, 44, 45, 46, 47, 48, 49, 50, 51, 52, 53, 54, 55, 56, 57, 58, 59, 60, 61, 62, 63, 64, 65, 66, 67, 68, 69, 70, 71, 72, 73, 74, 75, 76] (by decide +kernel) (by decide +kernel)
set_option maxRecDepth 20000 in
theorem gX3_tickOn_X3_tickOf : GoodIn wsX3_tickOn (wsV RX3 108 RX3 yX3_tickOf wsX3_tickOf) := goodIn_app (goodIn_of _ (by decide +kernel)) ggX3_tickOn_X3_tickOf
set_option maxRecDepth 20000 in
theorem ggX3_ended_X3_get : GoodIn wsX3_ended wsX3_get := goodIn_r _ [6, 7, 8, 9, 10, 11, 12, 13, 14, 15, 16] (by decide +kernel) (by decide +kernel)
set_option maxRecDepth 20000 in
theorem gX3_ended_X3_get : GoodIn wsX3_ended (wsV RX3 56 RX3 yX3_get wsX3_get) := goodIn_app (goodIn_of _ (by decide +kernel)) ggX3_ended_X3_get
set_option maxRecDepth 20000 in
theorem ggX3_run_X3_isIn : GoodIn wsX3_run wsX3_isIn := goodIn_r _ [6] (by decide +kernel) (by decide +kernel)
set_option maxRecDepth 20000 in
theorem gX3_run_X3_isIn : GoodIn wsX3_run (va_wsS RX3 32 yX3_isIn wsX3_isIn) := goodIn_app (goodIn_of _ (by decide +kernel)) ggX3_run_X3_isIn
set_option maxRecDepth 20000 in
theorem ggX3_run_X3_fail : GoodIn wsX3_run wsX3_fail := goodIn_r _ [10, 1, 84, 85, 86, 87, 88, 89, 90, 91, 92] (by decide +kernel) (by decide +kernel)
set_option maxRecDepth 20000 in
theorem gX3_run_X3_fail : GoodIn wsX3_run (wsV RX3 36 RX3 yX3_fail wsX3_fail) := goodIn_app (goodIn_of _ (by decide +kernel)) ggX3_run_X3_fail
set_option maxRecDepth 20000 in
theorem ggX3_run_X3_tickOn : GoodIn wsX3_run wsX3_tickOn := goodIn_r _ [14, 15, 2, 16, 17, 18, 5, 19, 20, 21, 22, 23, 24, 25, 26, 27, 28, 29, 30, 31, 32, 33, 34, 35, 36, 37, 38, 39, 40, 41, 42, 43, 44, 45, 46, 47, 48, 49, 50, 51, 52, 53, 54, 55, 56, 57, 58, 59, 60, 61, 62, 63, 64, 65, 66, 67, 68, 69, 70, 71, 72, 73, 74, 75, 76, 77, 78, 79, 84, 85, 86, 87, 88, 89, 90, 91, 92] (by decide +kernel) (by decide +kernel)
set_option maxRecDepth 20000 in
theorem gX3_run_X3_tickOn : GoodIn wsX3_run (wsV RX3 111 RX3 yX3_tickOn wsX3_tickOn) := goodIn_app (goodIn_of _ (by decide +kernel)) ggX3_run_X3_tickOn
set_option maxRecDepth 20000 in
theorem ggX3_run_X3_ended : GoodIn wsX3_run wsX3_ended := goodIn_r _ [83, 2, 26, 27, 28, 5, 29, 30, 84, 85, 86, 87, 88, 89, 90, 91, 92] (by decide +kernel) (by decide +kernel)
set_option maxRecDepth 20000 in
theorem gX3_run_X3_ended : GoodIn wsX3_run (wsV RX3 114 RX3 yX3_ended wsX3_ended) := goodIn_app (goodIn_of _ (by decide +kernel)) ggX3_run_X3_ended
set_option maxRecDepth 20000 in
theorem ggX3_restart_X3_begin : GoodIn wsX3_restart wsX3_begin := goodIn_r _ [9, 10, 11, 12, 8, 13, 14, 15, 16, 17, 18, 19, 20, 21, 22, 23, 24, 25, 26, 27] (by decide +kernel) (by decide +kernel)
set_option maxRecDepth 20000 in
theorem gX3_restart_X3_begin : GoodIn wsX3_restart (wsV RX3 60 RX3 yX3_begin wsX3_begin) := goodIn_app (goodIn_of _ (by decide +kernel)) ggX3_restart_X3_begin
set_option maxRecDepth 20000 in
theorem ggX3_counted_X3_ended : GoodIn wsX3_counted wsX3_ended := goodIn_r _ [10, 2, 11, 12, 13, 9, 14, 15, 16, 17, 18, 19, 20, 21, 22, 23, 24] (by decide +kernel) (by decide +kernel)
set_option maxRecDepth 20000 in
theorem gX3_counted_X3_ended : GoodIn wsX3_counted (wsV RX3 114 RX3 yX3_ended wsX3_ended) := goodIn_app (goodIn_of _ (by decide +kernel)) ggX3_counted_X3_ended
set_option maxRecDepth 20000 in
theorem ggX3_count_X3_isIn : GoodIn wsX3_count wsX3_isIn := goodIn_r _ [5] (by decide +kernel) (by decide +kernel)
set_option maxRecDepth 20000 in
theorem gX3_count_X3_isIn : GoodIn wsX3_count (va_wsS RX3 32 yX3_isIn wsX3_isIn) := goodIn_app (goodIn_of _ (by decide +kernel)) ggX3_count_X3_isIn
set_option maxRecDepth 20000 in
theorem ggX3_count_X3_counted : GoodIn wsX3_count wsX3_counted := goodIn_r _ [9, 10, 11, 12, 13, 14, 15, 16, 17, 4, 18, 19, 20, 21, 22, 23, 28, 29, 30, 31, 32, 33, 34, 35, 36] (by decide +kernel) (by decide +kernel)
set_option maxRecDepth 20000 in
theorem gX3_count_X3_counted : GoodIn wsX3_count (wsV RX3 118 RX3 yX3_counted wsX3_counted) := goodIn_app (goodIn_of _ (by decide +kernel)) ggX3_count_X3_counted
set_option maxRecDepth 20000 in
theorem ggX3_count_X3_fail : GoodIn wsX3_count wsX3_fail := goodIn_r _ [27, 1, 28, 29, 30, 31, 32, 33, 34, 35, 36] (by decide +kernel) (by decide +kernel)
set_option maxRecDepth 20000 in
theorem gX3_count_X3_fail : GoodIn wsX3_count (wsV RX3 36 RX3 yX3_fail wsX3_fail) := goodIn_app (goodIn_of _ (by decide +kernel)) ggX3_count_X3_fail
set_option maxRecDepth 20000 in
theorem ggX3_teamTold_X3_get : GoodIn wsX3_teamTold wsX3_get := goodIn_r _ [5, 6, 19, 20, 21, 22, 23, 24, 25, 26, 27] (by decide +kernel) (by decide +kernel)
set_option maxRecDepth 20000 in
theorem gX3_teamTold_X3_get : GoodIn wsX3_teamTold (wsV RX3 56 RX3 yX3_get wsX3_get) := goodIn_app (goodIn_of _ (by decide +kernel)) ggX3_teamTold_X3_get
set_option maxRecDepth 20000 in
theorem ggX3_teamTold_X3_many : GoodIn wsX3_teamTold wsX3_many := goodIn_r _ [10, 1, 2, 3, 4, 5, 6, 11, 12, 13, 14, 15, 16, 17, 18, 19, 20, 21, 22, 23, 24, 25, 26, 27] (by decide +kernel) (by decide +kernel)
set_option maxRecDepth 20000 in
theorem gX3_teamTold_X3_many : GoodIn wsX3_teamTold (wsV RX3 75 RX3 yX3_many wsX3_many) := goodIn_app (goodIn_of _ (by decide +kernel)) ggX3_teamTold_X3_many
set_option maxRecDepth 20000 in
theorem ggX3_team_X3_isTeam : GoodIn wsX3_team wsX3_isTeam := goodIn_r _ [6, 7, 8, 9, 5, 10, 36, 37, 38, 39, 40, 41, 42, 43, 44] (by decide +kernel) (by decide +kernel)
set_option maxRecDepth 20000 in
theorem gX3_team_X3_isTeam : GoodIn wsX3_team (wsV RX3 64 RX3 yX3_isTeam wsX3_isTeam) := goodIn_app (goodIn_of _ (by decide +kernel)) ggX3_team_X3_isTeam
set_option maxRecDepth 20000 in
theorem ggX3_team_X3_isIn : GoodIn wsX3_team wsX3_isIn := goodIn_r _ [10] (by decide +kernel) (by decide +kernel)
set_option maxRecDepth 20000 in
theorem gX3_team_X3_isIn : GoodIn wsX3_team (va_wsS RX3 32 yX3_isIn wsX3_isIn) := goodIn_app (goodIn_of _ (by decide +kernel)) ggX3_team_X3_isIn
set_option maxRecDepth 20000 in
theorem ggX3_team_X3_teamTold : GoodIn wsX3_team wsX3_teamTold := goodIn_r _ [14, 15, 16, 17, 5, 18, 19, 20, 21, 22, 23, 24, 25, 26, 27, 28, 29, 30, 31, 36, 37, 38, 39, 40, 41, 42, 43, 44] (by decide +kernel) (by decide +kernel)
set_option maxRecDepth 20000 in
theorem gX3_team_X3_teamTold : GoodIn wsX3_team (wsV RX3 121 RX3 yX3_teamTold wsX3_teamTold) := goodIn_app (goodIn_of _ (by decide +kernel)) ggX3_team_X3_teamTold
set_option maxRecDepth 20000 in
theorem ggX3_team_X3_fail : GoodIn wsX3_team wsX3_fail := goodIn_r _ [35, 1, 36, 37, 38, 39, 40, 41, 42, 43, 44] (by decide +kernel) (by decide +kernel)
set_option maxRecDepth 20000 in
theorem gX3_team_X3_fail : GoodIn wsX3_team (wsV RX3 36 RX3 yX3_fail wsX3_fail) := goodIn_app (goodIn_of _ (by decide +kernel)) ggX3_team_X3_fail
set_option maxRecDepth 20000 in
theorem ggX3_roller_X3_isTeam : GoodIn wsX3_roller wsX3_isTeam := goodIn_r _ [6, 7, 8, 9, 5, 10, 24, 25, 26, 27, 28, 29, 30, 31, 32] (by decide +kernel) (by decide +kernel)
set_option maxRecDepth 20000 in
theorem gX3_roller_X3_isTeam : GoodIn wsX3_roller (wsV RX3 64 RX3 yX3_isTeam wsX3_isTeam) := goodIn_app (goodIn_of _ (by decide +kernel)) ggX3_roller_X3_isTeam
set_option maxRecDepth 20000 in
theorem ggX3_roller_X3_get : GoodIn wsX3_roller wsX3_get := goodIn_r _ [14, 15, 24, 25, 26, 27, 28, 29, 30, 31, 32] (by decide +kernel) (by decide +kernel)
set_option maxRecDepth 20000 in
theorem gX3_roller_X3_get : GoodIn wsX3_roller (wsV RX3 56 RX3 yX3_get wsX3_get) := goodIn_app (goodIn_of _ (by decide +kernel)) ggX3_roller_X3_get
set_option maxRecDepth 20000 in
theorem ggX3_roller_X3_isIn : GoodIn wsX3_roller wsX3_isIn := goodIn_r _ [10] (by decide +kernel) (by decide +kernel)
set_option maxRecDepth 20000 in
theorem gX3_roller_X3_isIn : GoodIn wsX3_roller (va_wsS RX3 32 yX3_isIn wsX3_isIn) := goodIn_app (goodIn_of _ (by decide +kernel)) ggX3_roller_X3_isIn
set_option maxRecDepth 20000 in
theorem ggX3_roller_X3_fail : GoodIn wsX3_roller wsX3_fail := goodIn_r _ [19, 1, 24, 25, 26, 27, 28, 29, 30, 31, 32] (by decide +kernel) (by decide +kernel)
set_option maxRecDepth 20000 in
theorem gX3_roller_X3_fail : GoodIn wsX3_roller (wsV RX3 36 RX3 yX3_fail wsX3_fail) := goodIn_app (goodIn_of _ (by decide +kernel)) ggX3_roller_X3_fail
set_option maxRecDepth 20000 in
theorem ggX3_roller_X3_isCarried : GoodIn wsX3_roller wsX3_isCarried := goodIn_r _ [23, 11, 12, 13, 5, 14, 15, 24, 25, 26, 27, 28, 29, 30, 31, 32] (by decide +kernel) (by decide +kernel)
set_option maxRecDepth 20000 in
theorem gX3_roller_X3_isCarried : GoodIn wsX3_roller (wsV RX3 68 RX3 yX3_isCarried wsX3_isCarried) := goodIn_app (goodIn_of _ (by decide +kernel)) ggX3_roller_X3_isCarried
set_option maxRecDepth 20000 in
theorem ggX3_next_X3_isTeam : GoodIn wsX3_next wsX3_isTeam := goodIn_r _ [6, 7, 8, 9, 5, 10, 57, 58, 59, 60, 61, 62, 63, 64, 65] (by decide +kernel) (by decide +kernel)
set_option maxRecDepth 20000 in
theorem gX3_next_X3_isTeam : GoodIn wsX3_next (wsV RX3 64 RX3 yX3_isTeam wsX3_isTeam) := goodIn_app (goodIn_of _ (by decide +kernel)) ggX3_next_X3_isTeam
set_option maxRecDepth 20000 in
theorem ggX3_next_X3_isIn : GoodIn wsX3_next wsX3_isIn := goodIn_r _ [10] (by decide +kernel) (by decide +kernel)
set_option maxRecDepth 20000 in
theorem gX3_next_X3_isIn : GoodIn wsX3_next (va_wsS RX3 32 yX3_isIn wsX3_isIn) := goodIn_app (goodIn_of _ (by decide +kernel)) ggX3_next_X3_isIn
set_option maxRecDepth 20000 in
theorem ggX3_next_X3_fail : GoodIn wsX3_next wsX3_fail := goodIn_r _ [14, 1, 57, 58, 59, 60, 61, 62, 63, 64, 65] (by decide +kernel) (by decide +kernel)
set_option maxRecDepth 20000 in
theorem gX3_next_X3_fail : GoodIn wsX3_next (wsV RX3 36 RX3 yX3_fail wsX3_fail) := goodIn_app (goodIn_of _ (by decide +kernel)) ggX3_next_X3_fail
set_option maxRecDepth 20000 in
theorem ggX3_next_X3_pull : GoodIn wsX3_next wsX3_pull := goodIn_r _ [18, 19, 20, 21, 5, 22, 23, 57, 58, 59, 60, 61, 62, 63, 64, 65] (by decide +kernel) (by decide +kernel)
set_option maxRecDepth 20000 in
theorem gX3_next_X3_pull : GoodIn wsX3_next (wsV RX3 86 RX3 yX3_pull wsX3_pull) := goodIn_app (goodIn_of _ (by decide +kernel)) ggX3_next_X3_pull
set_option maxRecDepth 20000 in
theorem ggX3_next_X3_drag : GoodIn wsX3_next wsX3_drag := goodIn_r _ [27, 28, 29, 30, 31, 32, 33, 34, 35, 19, 20, 21, 5, 22, 23, 36, 37, 38, 39, 40, 41, 42, 43, 44, 45, 46, 47, 48, 49, 50, 51, 52, 57, 58, 59, 60, 61, 62, 63, 64, 65] (by decide +kernel) (by decide +kernel)
set_option maxRecDepth 20000 in
theorem gX3_next_X3_drag : GoodIn wsX3_next (wsV RX3 89 RX3 yX3_drag wsX3_drag) := goodIn_app (goodIn_of _ (by decide +kernel)) ggX3_next_X3_drag
set_option maxRecDepth 20000 in
theorem ggX3_next_X3_way : GoodIn wsX3_next wsX3_way := goodIn_r _ [56, 33, 34, 31, 35, 29, 30, 32, 15, 16, 17, 5, 18, 19, 20, 21, 22, 23, 24, 25, 26, 27, 28, 36, 37, 38, 39, 40, 41, 42, 43, 44, 45, 46, 47, 48, 49, 50, 51, 52, 57, 58, 59, 60, 61, 62, 63, 64, 65] (by decide +kernel) (by decide +kernel)
set_option maxRecDepth 20000 in
theorem gX3_next_X3_way : GoodIn wsX3_next (wsV RX3 92 RX3 yX3_way wsX3_way) := goodIn_app (goodIn_of _ (by decide +kernel)) ggX3_next_X3_way
set_option maxRecDepth 20000 in
theorem ggX3_isAhead_X3_get : GoodIn wsX3_isAhead wsX3_get := goodIn_r _ [5, 6, 7, 8, 9, 10, 11, 12, 13, 14, 15] (by decide +kernel) (by decide +kernel)
set_option maxRecDepth 20000 in
theorem gX3_isAhead_X3_get : GoodIn wsX3_isAhead (wsV RX3 56 RX3 yX3_get wsX3_get) := goodIn_app (goodIn_of _ (by decide +kernel)) ggX3_isAhead_X3_get
set_option maxRecDepth 20000 in
theorem ggX3_rankOf_X3_isAhead : GoodIn wsX3_rankOf wsX3_isAhead := goodIn_r _ [6, 7, 8, 9, 5, 10, 11, 12, 13, 14, 15, 16, 17, 18, 19, 20] (by decide +kernel) (by decide +kernel)
set_option maxRecDepth 20000 in
theorem gX3_rankOf_X3_isAhead : GoodIn wsX3_rankOf (wsV RX3 124 RX3 yX3_isAhead wsX3_isAhead) := goodIn_app (goodIn_of _ (by decide +kernel)) ggX3_rankOf_X3_isAhead
set_option maxRecDepth 20000 in
theorem ggX3_teamAt_X3_rankOf : GoodIn wsX3_teamAt wsX3_rankOf := goodIn_r _ [5, 6, 7, 8, 9, 4, 10, 11, 12, 13, 14, 15, 16, 17, 18, 19, 20, 21, 22, 23, 24] (by decide +kernel) (by decide +kernel)
set_option maxRecDepth 20000 in
theorem gX3_teamAt_X3_rankOf : GoodIn wsX3_teamAt (wsV RX3 127 RX3 yX3_rankOf wsX3_rankOf) := goodIn_app (goodIn_of _ (by decide +kernel)) ggX3_teamAt_X3_rankOf
set_option maxRecDepth 20000 in
theorem ggX3_ranked_X3_isIn : GoodIn wsX3_ranked wsX3_isIn := goodIn_r _ [6] (by decide +kernel) (by decide +kernel)
set_option maxRecDepth 20000 in
theorem gX3_ranked_X3_isIn : GoodIn wsX3_ranked (va_wsS RX3 32 yX3_isIn wsX3_isIn) := goodIn_app (goodIn_of _ (by decide +kernel)) ggX3_ranked_X3_isIn
set_option maxRecDepth 20000 in
theorem ggX3_ranked_X3_teamAt : GoodIn wsX3_ranked wsX3_teamAt := goodIn_r _ [10, 11, 12, 13, 5, 14, 2, 15, 16, 17, 18, 19, 20, 21, 22, 23, 28, 29, 30, 31, 32, 33, 34, 35, 36] (by decide +kernel) (by decide +kernel)
set_option maxRecDepth 20000 in
theorem gX3_ranked_X3_teamAt : GoodIn wsX3_ranked (wsV RX3 130 RX3 yX3_teamAt wsX3_teamAt) := goodIn_app (goodIn_of _ (by decide +kernel)) ggX3_ranked_X3_teamAt
set_option maxRecDepth 20000 in
theorem ggX3_ranked_X3_fail : GoodIn wsX3_ranked wsX3_fail := goodIn_r _ [27, 1, 28, 29, 30, 31, 32, 33, 34, 35, 36] (by decide +kernel) (by decide +kernel)
set_option maxRecDepth 20000 in
theorem gX3_ranked_X3_fail : GoodIn wsX3_ranked (wsV RX3 36 RX3 yX3_fail wsX3_fail) := goodIn_app (goodIn_of _ (by decide +kernel)) ggX3_ranked_X3_fail
set_option maxRecDepth 20000 in
theorem ggX3_foresee_X3_isTeam : GoodIn wsX3_foresee wsX3_isTeam := goodIn_r _ [14, 15, 16, 17, 13, 18, 97, 98, 99, 100, 101, 102, 103, 104, 105] (by decide +kernel) (by decide +kernel)
set_option maxRecDepth 20000 in
theorem gX3_foresee_X3_isTeam : GoodIn wsX3_foresee (wsV RX3 64 RX3 yX3_isTeam wsX3_isTeam) := goodIn_app (goodIn_of _ (by decide +kernel)) ggX3_foresee_X3_isTeam
set_option maxRecDepth 20000 in
theorem ggX3_foresee_X3_isIn : GoodIn wsX3_foresee wsX3_isIn := goodIn_r _ [18] (by decide +kernel) (by decide +kernel)
set_option maxRecDepth 20000 in
theorem gX3_foresee_X3_isIn : GoodIn wsX3_foresee (va_wsS RX3 32 yX3_isIn wsX3_isIn) := goodIn_app (goodIn_of _ (by decide +kernel)) ggX3_foresee_X3_isIn
set_option maxRecDepth 20000 in
theorem ggX3_foresee_X3_fail : GoodIn wsX3_foresee wsX3_fail := goodIn_r _ [22, 1, 97, 98, 99, 100, 101, 102, 103, 104, 105] (by decide +kernel) (by decide +kernel)
set_option maxRecDepth 20000 in
theorem gX3_foresee_X3_fail : GoodIn wsX3_foresee (wsV RX3 36 RX3 yX3_fail wsX3_fail) := goodIn_app (goodIn_of _ (by decide +kernel)) ggX3_foresee_X3_fail
set_option maxRecDepth 20000 in
theorem ggX3_foresee_X3_tickOn : GoodIn wsX3_foresee wsX3_tickOn := goodIn_r _ [26, 2, 15, 27, 28, 29, 13, 30, 31, 32, 33, 34, 3, 35, 36, 37, 38, 39, 4, 40, 41, 42, 43, 44, 45, 46, 47, 48, 49, 50, 51, 52, 53, 54, 55, 56, 57, 58, 59, 60, 61, 62, 63, 64, 65, 66, 67, 68, 69, 70, 71, 72, 73, 74, 75, 76, 77, 78, 79, 80, 81, 82, 83, 84, 85, 86, 87, 88, 97, 98, 99, 100, 101, 102, 103, 104, 105] (by decide +kernel) (by decide +kernel)
set_option maxRecDepth 20000 in
theorem gX3_foresee_X3_tickOn : GoodIn wsX3_foresee (wsV RX3 111 RX3 yX3_tickOn wsX3_tickOn) := goodIn_app (goodIn_of _ (by decide +kernel)) ggX3_foresee_X3_tickOn
set_option maxRecDepth 20000 in
theorem ggX3_foresee_X3_get : GoodIn wsX3_foresee wsX3_get := goodIn_r _ [39, 4, 97, 98, 99, 100, 101, 102, 103, 104, 105] (by decide +kernel) (by decide +kernel)
set_option maxRecDepth 20000 in
theorem gX3_foresee_X3_get : GoodIn wsX3_foresee (wsV RX3 56 RX3 yX3_get wsX3_get) := goodIn_app (goodIn_of _ (by decide +kernel)) ggX3_foresee_X3_get
set_option maxRecDepth 20000 in
theorem ggX3_foresee_X3_rankOf : GoodIn wsX3_foresee wsX3_rankOf := goodIn_r _ [92, 15, 93, 94, 95, 13, 96, 36, 37, 38, 39, 4, 97, 98, 99, 100, 101, 102, 103, 104, 105] (by decide +kernel) (by decide +kernel)
set_option maxRecDepth 20000 in
theorem gX3_foresee_X3_rankOf : GoodIn wsX3_foresee (wsV RX3 127 RX3 yX3_rankOf wsX3_rankOf) := goodIn_app (goodIn_of _ (by decide +kernel)) ggX3_foresee_X3_rankOf
set_option maxRecDepth 20000 in
theorem ggX3_advise_X3_isTeam : GoodIn wsX3_advise wsX3_isTeam := goodIn_r _ [6, 7, 8, 9, 5, 10, 101, 102, 103, 104, 105, 106, 107, 108, 109] (by decide +kernel) (by decide +kernel)
set_option maxRecDepth 20000 in
theorem gX3_advise_X3_isTeam : GoodIn wsX3_advise (wsV RX3 64 RX3 yX3_isTeam wsX3_isTeam) := goodIn_app (goodIn_of _ (by decide +kernel)) ggX3_advise_X3_isTeam
set_option maxRecDepth 20000 in
theorem ggX3_advise_X3_fail : GoodIn wsX3_advise wsX3_fail := goodIn_r _ [14, 1, 101, 102, 103, 104, 105, 106, 107, 108, 109] (by decide +kernel) (by decide +kernel)
set_option maxRecDepth 20000 in
theorem gX3_advise_X3_fail : GoodIn wsX3_advise (wsV RX3 36 RX3 yX3_fail wsX3_fail) := goodIn_app (goodIn_of _ (by decide +kernel)) ggX3_advise_X3_fail
set_option maxRecDepth 20000 in
theorem ggX3_advise_X3_isIn : GoodIn wsX3_advise wsX3_isIn := goodIn_r _ [10] (by decide +kernel) (by decide +kernel)
set_option maxRecDepth 20000 in
theorem gX3_advise_X3_isIn : GoodIn wsX3_advise (va_wsS RX3 32 yX3_isIn wsX3_isIn) := goodIn_app (goodIn_of _ (by decide +kernel)) ggX3_advise_X3_isIn
set_option maxRecDepth 20000 in
theorem ggX3_advise_X3_get : GoodIn wsX3_advise wsX3_get := goodIn_r _ [18, 19, 101, 102, 103, 104, 105, 106, 107, 108, 109] (by decide +kernel) (by decide +kernel)
set_option maxRecDepth 20000 in
theorem gX3_advise_X3_get : GoodIn wsX3_advise (wsV RX3 56 RX3 yX3_get wsX3_get) := goodIn_app (goodIn_of _ (by decide +kernel)) ggX3_advise_X3_get
set_option maxRecDepth 20000 in
theorem ggX3_advise_X3_set : GoodIn wsX3_advise wsX3_set := goodIn_r _ [23, 19, 101, 102, 103, 104, 105, 106, 107, 108, 109] (by decide +kernel) (by decide +kernel)
set_option maxRecDepth 20000 in
theorem gX3_advise_X3_set : GoodIn wsX3_advise (wsV RX3 52 RX3 yX3_set wsX3_set) := goodIn_app (goodIn_of _ (by decide +kernel)) ggX3_advise_X3_set
set_option maxRecDepth 20000 in
theorem ggX3_advise_X3_foresee : GoodIn wsX3_advise wsX3_foresee := goodIn_r _ [27, 1, 28, 29, 19, 30, 31, 32, 33, 34, 2, 3, 4, 5, 6, 7, 8, 9, 10, 11, 12, 13, 14, 35, 36, 37, 38, 39, 40, 41, 42, 43, 44, 45, 46, 47, 15, 16, 17, 18, 48, 49, 50, 51, 20, 21, 22, 23, 52, 53, 54, 55, 56, 57, 58, 59, 60, 61, 62, 63, 64, 65, 66, 67, 68, 69, 70, 71, 72, 73, 74, 75, 76, 77, 78, 79, 80, 81, 82, 83, 84, 85, 86, 87, 88, 89, 90, 91, 92, 93, 94, 95, 96, 97, 98, 99, 100, 101, 102, 103, 104, 105, 106, 107, 108, 109] (by decide +kernel) (by decide +kernel)
set_option maxRecDepth 20000 in
theorem gX3_advise_X3_foresee : GoodIn wsX3_advise (wsV RX3 133 RX3 yX3_foresee wsX3_foresee) := goodIn_app (goodIn_of _ (by decide +kernel)) ggX3_advise_X3_foresee
set_option maxRecDepth 20000 in
theorem ggX3_mean_X3_get : GoodIn wsX3_mean wsX3_get := goodIn_r _ [7, 8, 9, 10, 11, 12, 13, 14, 15, 16, 17] (by decide +kernel) (by decide +kernel)
set_option maxRecDepth 20000 in
theorem gX3_mean_X3_get : GoodIn wsX3_mean (wsV RX3 56 RX3 yX3_get wsX3_get) := goodIn_app (goodIn_of _ (by decide +kernel)) ggX3_mean_X3_get
set_option maxRecDepth 20000 in
theorem ggX3_digest_X3_counted : GoodIn wsX3_digest wsX3_counted := goodIn_r _ [9, 10, 4, 11, 12, 13, 14, 15, 16, 8, 17, 18, 19, 20, 21, 22, 51, 52, 53, 54, 55, 56, 57, 58, 59] (by decide +kernel) (by decide +kernel)
set_option maxRecDepth 20000 in
theorem gX3_digest_X3_counted : GoodIn wsX3_digest (wsV RX3 118 RX3 yX3_counted wsX3_counted) := goodIn_app (goodIn_of _ (by decide +kernel)) ggX3_digest_X3_counted
set_option maxRecDepth 20000 in
theorem ggX3_digest_X3_teamTold : GoodIn wsX3_digest wsX3_teamTold := goodIn_r _ [26, 18, 19, 20, 8, 21, 22, 27, 28, 29, 30, 31, 32, 33, 34, 35, 36, 37, 38, 51, 52, 53, 54, 55, 56, 57, 58, 59] (by decide +kernel) (by decide +kernel)
set_option maxRecDepth 20000 in
theorem gX3_digest_X3_teamTold : GoodIn wsX3_digest (wsV RX3 121 RX3 yX3_teamTold wsX3_teamTold) := goodIn_app (goodIn_of _ (by decide +kernel)) ggX3_digest_X3_teamTold
set_option maxRecDepth 20000 in
theorem ggX3_digest_X3_get : GoodIn wsX3_digest wsX3_get := goodIn_r _ [21, 22, 51, 52, 53, 54, 55, 56, 57, 58, 59] (by decide +kernel) (by decide +kernel)
set_option maxRecDepth 20000 in
theorem gX3_digest_X3_get : GoodIn wsX3_digest (wsV RX3 56 RX3 yX3_get wsX3_get) := goodIn_app (goodIn_of _ (by decide +kernel)) ggX3_digest_X3_get
set_option maxRecDepth 20000 in
theorem ggX3_digest_X3_isCarried : GoodIn wsX3_digest wsX3_isCarried := goodIn_r _ [38, 18, 19, 20, 8, 21, 22, 51, 52, 53, 54, 55, 56, 57, 58, 59] (by decide +kernel) (by decide +kernel)
set_option maxRecDepth 20000 in
theorem gX3_digest_X3_isCarried : GoodIn wsX3_digest (wsV RX3 68 RX3 yX3_isCarried wsX3_isCarried) := goodIn_app (goodIn_of _ (by decide +kernel)) ggX3_digest_X3_isCarried
set_option maxRecDepth 20000 in
theorem ggX3_digest_X3_teamAt : GoodIn wsX3_digest wsX3_teamAt := goodIn_r _ [42, 43, 44, 45, 8, 46, 4, 47, 48, 49, 50, 18, 19, 20, 21, 22, 51, 52, 53, 54, 55, 56, 57, 58, 59] (by decide +kernel) (by decide +kernel)
set_option maxRecDepth 20000 in
theorem gX3_digest_X3_teamAt : GoodIn wsX3_digest (wsV RX3 130 RX3 yX3_teamAt wsX3_teamAt) := goodIn_app (goodIn_of _ (by decide +kernel)) ggX3_digest_X3_teamAt
end
section
theorem dX2_init_0 : decode cX2_init 0 = .ok (.aload_n 0, 1) := by decide +kernel
theorem dX2_init_1 : decode cX2_init 1 = .ok (.invokespecial 1, 3) := by decide +kernel
theorem dX2_init_4 : decode cX2_init 4 = .ok (.aload_n 0, 1) := by decide +kernel
theorem dX2_init_5 : decode cX2_init 5 = .ok (.new 7, 3) := by decide +kernel
theorem dX2_init_8 : decode cX2_init 8 = .ok (.dup, 1) := by decide +kernel
theorem dX2_init_9 : decode cX2_init 9 = .ok (.invokespecial 9, 3) := by decide +kernel
theorem dX2_init_12 : decode cX2_init 12 = .ok (.putfield 10, 3) := by decide +kernel
theorem dX2_init_15 : decode cX2_init 15 = .ok (.aload_n 0, 1) := by decide +kernel
theorem dX2_init_16 : decode cX2_init 16 = .ok (.bipush 6, 2) := by decide +kernel
theorem dX2_init_18 : decode cX2_init 18 = .ok (.anewarray 16, 3) := by decide +kernel
theorem dX2_init_21 : decode cX2_init 21 = .ok (.putfield 18, 3) := by decide +kernel
theorem dX2_init_24 : decode cX2_init 24 = .ok (.aload_n 0, 1) := by decide +kernel
theorem dX2_init_25 : decode cX2_init 25 = .ok (.new 16, 3) := by decide +kernel
theorem dX2_init_28 : decode cX2_init 28 = .ok (.dup, 1) := by decide +kernel
theorem dX2_init_29 : decode cX2_init 29 = .ok (.iconst 0, 1) := by decide +kernel
theorem dX2_init_30 : decode cX2_init 30 = .ok (.bipush 20, 2) := by decide +kernel
theorem dX2_init_32 : decode cX2_init 32 = .ok (.bipush 10, 2) := by decide +kernel
theorem dX2_init_34 : decode cX2_init 34 = .ok (.iconst 2, 1) := by decide +kernel
theorem dX2_init_35 : decode cX2_init 35 = .ok (.invokespecial 22, 3) := by decide +kernel
theorem dX2_init_38 : decode cX2_init 38 = .ok (.putfield 25, 3) := by decide +kernel
theorem dX2_init_41 : decode cX2_init 41 = .ok (.aload_n 0, 1) := by decide +kernel
theorem dX2_init_42 : decode cX2_init 42 = .ok (.new 16, 3) := by decide +kernel
theorem dX2_init_45 : decode cX2_init 45 = .ok (.dup, 1) := by decide +kernel
theorem dX2_init_46 : decode cX2_init 46 = .ok (.iconst 0, 1) := by decide +kernel
theorem dX2_init_47 : decode cX2_init 47 = .ok (.bipush 20, 2) := by decide +kernel
theorem dX2_init_49 : decode cX2_init 49 = .ok (.bipush 10, 2) := by decide +kernel
theorem dX2_init_51 : decode cX2_init 51 = .ok (.iconst 2, 1) := by decide +kernel
theorem dX2_init_52 : decode cX2_init 52 = .ok (.invokespecial 22, 3) := by decide +kernel
theorem dX2_init_55 : decode cX2_init 55 = .ok (.putfield 29, 3) := by decide +kernel
theorem dX2_init_58 : decode cX2_init 58 = .ok (.aload_n 0, 1) := by decide +kernel
theorem dX2_init_59 : decode cX2_init 59 = .ok (.iconst 0, 1) := by decide +kernel
theorem dX2_init_60 : decode cX2_init 60 = .ok (.putfield 32, 3) := by decide +kernel
theorem dX2_init_63 : decode cX2_init 63 = .ok (.aload_n 0, 1) := by decide +kernel
theorem dX2_init_64 : decode cX2_init 64 = .ok (.iconst 0, 1) := by decide +kernel
theorem dX2_init_65 : decode cX2_init 65 = .ok (.putfield 36, 3) := by decide +kernel
theorem dX2_init_68 : decode cX2_init 68 = .ok (.return_, 1) := by decide +kernel
theorem dX2_setLength_0 : decode cX2_setLength 0 = .ok (.iload_n 1, 1) := by decide +kernel
theorem dX2_setLength_1 : decode cX2_setLength 1 = .ok (.bipush 100, 2) := by decide +kernel
theorem dX2_setLength_3 : decode cX2_setLength 3 = .ok (.sipush 2000, 3) := by decide +kernel
theorem dX2_setLength_6 : decode cX2_setLength 6 = .ok (.invokestatic 39, 3) := by decide +kernel
theorem dX2_setLength_9 : decode cX2_setLength 9 = .ok (.ifCond .eq 13, 3) := by decide +kernel
theorem dX2_setLength_12 : decode cX2_setLength 12 = .ok (.new 43, 3) := by decide +kernel
theorem dX2_setLength_15 : decode cX2_setLength 15 = .ok (.dup, 1) := by decide +kernel
theorem dX2_setLength_16 : decode cX2_setLength 16 = .ok (.ldc 45, 2) := by decide +kernel
theorem dX2_setLength_18 : decode cX2_setLength 18 = .ok (.invokespecial 47, 3) := by decide +kernel
theorem dX2_setLength_21 : decode cX2_setLength 21 = .ok (.athrow, 1) := by decide +kernel
theorem dX2_setLength_22 : decode cX2_setLength 22 = .ok (.aload_n 0, 1) := by decide +kernel
theorem dX2_setLength_23 : decode cX2_setLength 23 = .ok (.invokevirtual 50, 3) := by decide +kernel
theorem dX2_setLength_26 : decode cX2_setLength 26 = .ok (.aload_n 0, 1) := by decide +kernel
theorem dX2_setLength_27 : decode cX2_setLength 27 = .ok (.getfield 10, 3) := by decide +kernel
theorem dX2_setLength_30 : decode cX2_setLength 30 = .ok (.getfield 53, 3) := by decide +kernel
theorem dX2_setLength_33 : decode cX2_setLength 33 = .ok (.istore_n 2, 1) := by decide +kernel
theorem dX2_setLength_34 : decode cX2_setLength 34 = .ok (.aload_n 0, 1) := by decide +kernel
theorem dX2_setLength_35 : decode cX2_setLength 35 = .ok (.getfield 10, 3) := by decide +kernel
theorem dX2_setLength_38 : decode cX2_setLength 38 = .ok (.iload_n 1, 1) := by decide +kernel
theorem dX2_setLength_39 : decode cX2_setLength 39 = .ok (.putfield 53, 3) := by decide +kernel
theorem dX2_setLength_42 : decode cX2_setLength 42 = .ok (.iload_n 2, 1) := by decide +kernel
theorem dX2_setLength_43 : decode cX2_setLength 43 = .ok (.ireturn, 1) := by decide +kernel
theorem dX2_lay_0 : decode cX2_lay 0 = .ok (.iload_n 1, 1) := by decide +kernel
theorem dX2_lay_1 : decode cX2_lay 1 = .ok (.iconst 0, 1) := by decide +kernel
theorem dX2_lay_2 : decode cX2_lay 2 = .ok (.sipush 1999, 3) := by decide +kernel
theorem dX2_lay_5 : decode cX2_lay 5 = .ok (.invokestatic 39, 3) := by decide +kernel
theorem dX2_lay_8 : decode cX2_lay 8 = .ok (.ifCond .ne 23, 3) := by decide +kernel
theorem dX2_lay_11 : decode cX2_lay 11 = .ok (.iload_n 2, 1) := by decide +kernel
theorem dX2_lay_12 : decode cX2_lay 12 = .ok (.bipush (-5), 2) := by decide +kernel
theorem dX2_lay_14 : decode cX2_lay 14 = .ok (.iconst 5, 1) := by decide +kernel
theorem dX2_lay_15 : decode cX2_lay 15 = .ok (.invokestatic 39, 3) := by decide +kernel
theorem dX2_lay_18 : decode cX2_lay 18 = .ok (.ifCond .ne 13, 3) := by decide +kernel
theorem dX2_lay_21 : decode cX2_lay 21 = .ok (.iload_n 3, 1) := by decide +kernel
theorem dX2_lay_22 : decode cX2_lay 22 = .ok (.iconst 0, 1) := by decide +kernel
theorem dX2_lay_23 : decode cX2_lay 23 = .ok (.bipush 9, 2) := by decide +kernel
theorem dX2_lay_25 : decode cX2_lay 25 = .ok (.invokestatic 39, 3) := by decide +kernel
theorem dX2_lay_28 : decode cX2_lay 28 = .ok (.ifCond .eq 13, 3) := by decide +kernel
theorem dX2_lay_31 : decode cX2_lay 31 = .ok (.new 43, 3) := by decide +kernel
theorem dX2_lay_34 : decode cX2_lay 34 = .ok (.dup, 1) := by decide +kernel
theorem dX2_lay_35 : decode cX2_lay 35 = .ok (.ldc 56, 2) := by decide +kernel
theorem dX2_lay_37 : decode cX2_lay 37 = .ok (.invokespecial 47, 3) := by decide +kernel
theorem dX2_lay_40 : decode cX2_lay 40 = .ok (.athrow, 1) := by decide +kernel
theorem dX2_lay_41 : decode cX2_lay 41 = .ok (.aload_n 0, 1) := by decide +kernel
theorem dX2_lay_42 : decode cX2_lay 42 = .ok (.getfield 10, 3) := by decide +kernel
theorem dX2_lay_45 : decode cX2_lay 45 = .ok (.iload_n 1, 1) := by decide +kernel
theorem dX2_lay_46 : decode cX2_lay 46 = .ok (.iload_n 2, 1) := by decide +kernel
theorem dX2_lay_47 : decode cX2_lay 47 = .ok (.iload_n 3, 1) := by decide +kernel
theorem dX2_lay_48 : decode cX2_lay 48 = .ok (.invokevirtual 58, 3) := by decide +kernel
theorem dX2_lay_51 : decode cX2_lay 51 = .ok (.ifCond .ne 13, 3) := by decide +kernel
theorem dX2_lay_54 : decode cX2_lay 54 = .ok (.new 61, 3) := by decide +kernel
theorem dX2_lay_57 : decode cX2_lay 57 = .ok (.dup, 1) := by decide +kernel
theorem dX2_lay_58 : decode cX2_lay 58 = .ok (.ldc 63, 2) := by decide +kernel
theorem dX2_lay_60 : decode cX2_lay 60 = .ok (.invokespecial 65, 3) := by decide +kernel
theorem dX2_lay_63 : decode cX2_lay 63 = .ok (.athrow, 1) := by decide +kernel
theorem dX2_lay_64 : decode cX2_lay 64 = .ok (.aload_n 0, 1) := by decide +kernel
theorem dX2_lay_65 : decode cX2_lay 65 = .ok (.getfield 10, 3) := by decide +kernel
theorem dX2_lay_68 : decode cX2_lay 68 = .ok (.getfield 66, 3) := by decide +kernel
theorem dX2_lay_71 : decode cX2_lay 71 = .ok (.ireturn, 1) := by decide +kernel
theorem dX2_ground_0 : decode cX2_ground 0 = .ok (.iload_n 1, 1) := by decide +kernel
theorem dX2_ground_1 : decode cX2_ground 1 = .ok (.bipush (-100), 2) := by decide +kernel
theorem dX2_ground_3 : decode cX2_ground 3 = .ok (.sipush 3000, 3) := by decide +kernel
theorem dX2_ground_6 : decode cX2_ground 6 = .ok (.invokestatic 39, 3) := by decide +kernel
theorem dX2_ground_9 : decode cX2_ground 9 = .ok (.ifCond .eq 13, 3) := by decide +kernel
theorem dX2_ground_12 : decode cX2_ground 12 = .ok (.new 43, 3) := by decide +kernel
theorem dX2_ground_15 : decode cX2_ground 15 = .ok (.dup, 1) := by decide +kernel
theorem dX2_ground_16 : decode cX2_ground 16 = .ok (.ldc 69, 2) := by decide +kernel
theorem dX2_ground_18 : decode cX2_ground 18 = .ok (.invokespecial 47, 3) := by decide +kernel
theorem dX2_ground_21 : decode cX2_ground 21 = .ok (.athrow, 1) := by decide +kernel
theorem dX2_ground_22 : decode cX2_ground 22 = .ok (.aload_n 0, 1) := by decide +kernel
theorem dX2_ground_23 : decode cX2_ground 23 = .ok (.getfield 10, 3) := by decide +kernel
theorem dX2_ground_26 : decode cX2_ground 26 = .ok (.iload_n 1, 1) := by decide +kernel
theorem dX2_ground_27 : decode cX2_ground 27 = .ok (.iload_n 2, 1) := by decide +kernel
theorem dX2_ground_28 : decode cX2_ground 28 = .ok (.invokevirtual 71, 3) := by decide +kernel
theorem dX2_ground_31 : decode cX2_ground 31 = .ok (.ireturn, 1) := by decide +kernel
theorem dX2_addTeam_0 : decode cX2_addTeam 0 = .ok (.iload_n 1, 1) := by decide +kernel
theorem dX2_addTeam_1 : decode cX2_addTeam 1 = .ok (.bipush 20, 2) := by decide +kernel
theorem dX2_addTeam_3 : decode cX2_addTeam 3 = .ok (.bipush 80, 2) := by decide +kernel
theorem dX2_addTeam_5 : decode cX2_addTeam 5 = .ok (.invokestatic 39, 3) := by decide +kernel
theorem dX2_addTeam_8 : decode cX2_addTeam 8 = .ok (.ifCond .ne 24, 3) := by decide +kernel
theorem dX2_addTeam_11 : decode cX2_addTeam 11 = .ok (.iload_n 2, 1) := by decide +kernel
theorem dX2_addTeam_12 : decode cX2_addTeam 12 = .ok (.bipush 10, 2) := by decide +kernel
theorem dX2_addTeam_14 : decode cX2_addTeam 14 = .ok (.bipush 99, 2) := by decide +kernel
theorem dX2_addTeam_16 : decode cX2_addTeam 16 = .ok (.invokestatic 39, 3) := by decide +kernel
theorem dX2_addTeam_19 : decode cX2_addTeam 19 = .ok (.ifCond .ne 13, 3) := by decide +kernel
theorem dX2_addTeam_22 : decode cX2_addTeam 22 = .ok (.iload_n 3, 1) := by decide +kernel
theorem dX2_addTeam_23 : decode cX2_addTeam 23 = .ok (.iconst 2, 1) := by decide +kernel
theorem dX2_addTeam_24 : decode cX2_addTeam 24 = .ok (.bipush 8, 2) := by decide +kernel
theorem dX2_addTeam_26 : decode cX2_addTeam 26 = .ok (.invokestatic 39, 3) := by decide +kernel
theorem dX2_addTeam_29 : decode cX2_addTeam 29 = .ok (.ifCond .eq 13, 3) := by decide +kernel
theorem dX2_addTeam_32 : decode cX2_addTeam 32 = .ok (.new 43, 3) := by decide +kernel
theorem dX2_addTeam_35 : decode cX2_addTeam 35 = .ok (.dup, 1) := by decide +kernel
theorem dX2_addTeam_36 : decode cX2_addTeam 36 = .ok (.ldc 75, 2) := by decide +kernel
theorem dX2_addTeam_38 : decode cX2_addTeam 38 = .ok (.invokespecial 47, 3) := by decide +kernel
theorem dX2_addTeam_41 : decode cX2_addTeam 41 = .ok (.athrow, 1) := by decide +kernel
theorem dX2_addTeam_42 : decode cX2_addTeam 42 = .ok (.aload_n 0, 1) := by decide +kernel
theorem dX2_addTeam_43 : decode cX2_addTeam 43 = .ok (.getfield 32, 3) := by decide +kernel
theorem dX2_addTeam_46 : decode cX2_addTeam 46 = .ok (.ifCond .lt 15, 3) := by decide +kernel
theorem dX2_addTeam_49 : decode cX2_addTeam 49 = .ok (.aload_n 0, 1) := by decide +kernel
theorem dX2_addTeam_50 : decode cX2_addTeam 50 = .ok (.getfield 32, 3) := by decide +kernel
theorem dX2_addTeam_53 : decode cX2_addTeam 53 = .ok (.aload_n 0, 1) := by decide +kernel
theorem dX2_addTeam_54 : decode cX2_addTeam 54 = .ok (.getfield 18, 3) := by decide +kernel
theorem dX2_addTeam_57 : decode cX2_addTeam 57 = .ok (.arraylength, 1) := by decide +kernel
theorem dX2_addTeam_58 : decode cX2_addTeam 58 = .ok (.if_icmp .lt 13, 3) := by decide +kernel
theorem dX2_addTeam_61 : decode cX2_addTeam 61 = .ok (.new 61, 3) := by decide +kernel
theorem dX2_addTeam_64 : decode cX2_addTeam 64 = .ok (.dup, 1) := by decide +kernel
theorem dX2_addTeam_65 : decode cX2_addTeam 65 = .ok (.ldc 77, 2) := by decide +kernel
theorem dX2_addTeam_67 : decode cX2_addTeam 67 = .ok (.invokespecial 65, 3) := by decide +kernel
theorem dX2_addTeam_70 : decode cX2_addTeam 70 = .ok (.athrow, 1) := by decide +kernel
theorem dX2_addTeam_71 : decode cX2_addTeam 71 = .ok (.aload_n 0, 1) := by decide +kernel
theorem dX2_addTeam_72 : decode cX2_addTeam 72 = .ok (.invokevirtual 50, 3) := by decide +kernel
theorem dX2_addTeam_75 : decode cX2_addTeam 75 = .ok (.aload_n 0, 1) := by decide +kernel
theorem dX2_addTeam_76 : decode cX2_addTeam 76 = .ok (.getfield 32, 3) := by decide +kernel
theorem dX2_addTeam_79 : decode cX2_addTeam 79 = .ok (.istore 4, 2) := by decide +kernel
theorem dX2_addTeam_81 : decode cX2_addTeam 81 = .ok (.aload_n 0, 1) := by decide +kernel
theorem dX2_addTeam_82 : decode cX2_addTeam 82 = .ok (.getfield 18, 3) := by decide +kernel
theorem dX2_addTeam_85 : decode cX2_addTeam 85 = .ok (.iload 4, 2) := by decide +kernel
theorem dX2_addTeam_87 : decode cX2_addTeam 87 = .ok (.new 16, 3) := by decide +kernel
theorem dX2_addTeam_90 : decode cX2_addTeam 90 = .ok (.dup, 1) := by decide +kernel
theorem dX2_addTeam_91 : decode cX2_addTeam 91 = .ok (.iload 4, 2) := by decide +kernel
theorem dX2_addTeam_93 : decode cX2_addTeam 93 = .ok (.iload_n 1, 1) := by decide +kernel
theorem dX2_addTeam_94 : decode cX2_addTeam 94 = .ok (.iload_n 2, 1) := by decide +kernel
theorem dX2_addTeam_95 : decode cX2_addTeam 95 = .ok (.iload_n 3, 1) := by decide +kernel
theorem dX2_addTeam_96 : decode cX2_addTeam 96 = .ok (.invokespecial 22, 3) := by decide +kernel
theorem dX2_addTeam_99 : decode cX2_addTeam 99 = .ok (.aastore, 1) := by decide +kernel
theorem dX2_addTeam_100 : decode cX2_addTeam 100 = .ok (.aload_n 0, 1) := by decide +kernel
theorem dX2_addTeam_101 : decode cX2_addTeam 101 = .ok (.dup, 1) := by decide +kernel
theorem dX2_addTeam_102 : decode cX2_addTeam 102 = .ok (.getfield 32, 3) := by decide +kernel
theorem dX2_addTeam_105 : decode cX2_addTeam 105 = .ok (.iconst 1, 1) := by decide +kernel
theorem dX2_addTeam_106 : decode cX2_addTeam 106 = .ok (.iadd, 1) := by decide +kernel
theorem dX2_addTeam_107 : decode cX2_addTeam 107 = .ok (.putfield 32, 3) := by decide +kernel
theorem dX2_addTeam_110 : decode cX2_addTeam 110 = .ok (.iload 4, 2) := by decide +kernel
theorem dX2_addTeam_112 : decode cX2_addTeam 112 = .ok (.ireturn, 1) := by decide +kernel
theorem dX2_setCrew_0 : decode cX2_setCrew 0 = .ok (.aload_n 0, 1) := by decide +kernel
theorem dX2_setCrew_1 : decode cX2_setCrew 1 = .ok (.iload_n 1, 1) := by decide +kernel
theorem dX2_setCrew_2 : decode cX2_setCrew 2 = .ok (.invokevirtual 79, 3) := by decide +kernel
theorem dX2_setCrew_5 : decode cX2_setCrew 5 = .ok (.astore 6, 2) := by decide +kernel
theorem dX2_setCrew_7 : decode cX2_setCrew 7 = .ok (.iload_n 2, 1) := by decide +kernel
theorem dX2_setCrew_8 : decode cX2_setCrew 8 = .ok (.iconst 1, 1) := by decide +kernel
theorem dX2_setCrew_9 : decode cX2_setCrew 9 = .ok (.bipush 9, 2) := by decide +kernel
theorem dX2_setCrew_11 : decode cX2_setCrew 11 = .ok (.invokestatic 39, 3) := by decide +kernel
theorem dX2_setCrew_14 : decode cX2_setCrew 14 = .ok (.ifCond .ne 36, 3) := by decide +kernel
theorem dX2_setCrew_17 : decode cX2_setCrew 17 = .ok (.iload_n 3, 1) := by decide +kernel
theorem dX2_setCrew_18 : decode cX2_setCrew 18 = .ok (.iconst 1, 1) := by decide +kernel
theorem dX2_setCrew_19 : decode cX2_setCrew 19 = .ok (.bipush 20, 2) := by decide +kernel
theorem dX2_setCrew_21 : decode cX2_setCrew 21 = .ok (.invokestatic 39, 3) := by decide +kernel
theorem dX2_setCrew_24 : decode cX2_setCrew 24 = .ok (.ifCond .ne 26, 3) := by decide +kernel
theorem dX2_setCrew_27 : decode cX2_setCrew 27 = .ok (.iload 4, 2) := by decide +kernel
theorem dX2_setCrew_29 : decode cX2_setCrew 29 = .ok (.iconst 1, 1) := by decide +kernel
theorem dX2_setCrew_30 : decode cX2_setCrew 30 = .ok (.iconst 3, 1) := by decide +kernel
theorem dX2_setCrew_31 : decode cX2_setCrew 31 = .ok (.invokestatic 39, 3) := by decide +kernel
theorem dX2_setCrew_34 : decode cX2_setCrew 34 = .ok (.ifCond .ne 16, 3) := by decide +kernel
theorem dX2_setCrew_37 : decode cX2_setCrew 37 = .ok (.iload 5, 2) := by decide +kernel
theorem dX2_setCrew_39 : decode cX2_setCrew 39 = .ok (.bipush 20, 2) := by decide +kernel
theorem dX2_setCrew_41 : decode cX2_setCrew 41 = .ok (.sipush 400, 3) := by decide +kernel
theorem dX2_setCrew_44 : decode cX2_setCrew 44 = .ok (.invokestatic 39, 3) := by decide +kernel
theorem dX2_setCrew_47 : decode cX2_setCrew 47 = .ok (.ifCond .eq 13, 3) := by decide +kernel
theorem dX2_setCrew_50 : decode cX2_setCrew 50 = .ok (.new 43, 3) := by decide +kernel
theorem dX2_setCrew_53 : decode cX2_setCrew 53 = .ok (.dup, 1) := by decide +kernel
theorem dX2_setCrew_54 : decode cX2_setCrew 54 = .ok (.ldc 83, 2) := by decide +kernel
theorem dX2_setCrew_56 : decode cX2_setCrew 56 = .ok (.invokespecial 47, 3) := by decide +kernel
theorem dX2_setCrew_59 : decode cX2_setCrew 59 = .ok (.athrow, 1) := by decide +kernel
theorem dX2_setCrew_60 : decode cX2_setCrew 60 = .ok (.aload_n 0, 1) := by decide +kernel
theorem dX2_setCrew_61 : decode cX2_setCrew 61 = .ok (.invokevirtual 50, 3) := by decide +kernel
theorem dX2_setCrew_64 : decode cX2_setCrew 64 = .ok (.aload 6, 2) := by decide +kernel
theorem dX2_setCrew_66 : decode cX2_setCrew 66 = .ok (.getfield 85, 3) := by decide +kernel
theorem dX2_setCrew_69 : decode cX2_setCrew 69 = .ok (.istore 7, 2) := by decide +kernel
theorem dX2_setCrew_71 : decode cX2_setCrew 71 = .ok (.aload 6, 2) := by decide +kernel
theorem dX2_setCrew_73 : decode cX2_setCrew 73 = .ok (.iload_n 2, 1) := by decide +kernel
theorem dX2_setCrew_74 : decode cX2_setCrew 74 = .ok (.putfield 85, 3) := by decide +kernel
theorem dX2_setCrew_77 : decode cX2_setCrew 77 = .ok (.aload 6, 2) := by decide +kernel
theorem dX2_setCrew_79 : decode cX2_setCrew 79 = .ok (.iload_n 3, 1) := by decide +kernel
theorem dX2_setCrew_80 : decode cX2_setCrew 80 = .ok (.putfield 88, 3) := by decide +kernel
theorem dX2_setCrew_83 : decode cX2_setCrew 83 = .ok (.aload 6, 2) := by decide +kernel
theorem dX2_setCrew_85 : decode cX2_setCrew 85 = .ok (.iload 4, 2) := by decide +kernel
theorem dX2_setCrew_87 : decode cX2_setCrew 87 = .ok (.putfield 91, 3) := by decide +kernel
theorem dX2_setCrew_90 : decode cX2_setCrew 90 = .ok (.aload 6, 2) := by decide +kernel
theorem dX2_setCrew_92 : decode cX2_setCrew 92 = .ok (.iload 5, 2) := by decide +kernel
theorem dX2_setCrew_94 : decode cX2_setCrew 94 = .ok (.putfield 94, 3) := by decide +kernel
theorem dX2_setCrew_97 : decode cX2_setCrew 97 = .ok (.aload 6, 2) := by decide +kernel
theorem dX2_setCrew_99 : decode cX2_setCrew 99 = .ok (.iload 5, 2) := by decide +kernel
theorem dX2_setCrew_101 : decode cX2_setCrew 101 = .ok (.putfield 97, 3) := by decide +kernel
theorem dX2_setCrew_104 : decode cX2_setCrew 104 = .ok (.iload 7, 2) := by decide +kernel
theorem dX2_setCrew_106 : decode cX2_setCrew 106 = .ok (.ireturn, 1) := by decide +kernel
theorem dX2_order_0 : decode cX2_order 0 = .ok (.aload_n 0, 1) := by decide +kernel
theorem dX2_order_1 : decode cX2_order 1 = .ok (.iload_n 1, 1) := by decide +kernel
theorem dX2_order_2 : decode cX2_order 2 = .ok (.invokevirtual 79, 3) := by decide +kernel
theorem dX2_order_5 : decode cX2_order 5 = .ok (.astore 4, 2) := by decide +kernel
theorem dX2_order_7 : decode cX2_order 7 = .ok (.iload_n 2, 1) := by decide +kernel
theorem dX2_order_8 : decode cX2_order 8 = .ok (.iconst 0, 1) := by decide +kernel
theorem dX2_order_9 : decode cX2_order 9 = .ok (.bipush 10, 2) := by decide +kernel
theorem dX2_order_11 : decode cX2_order 11 = .ok (.invokestatic 39, 3) := by decide +kernel
theorem dX2_order_14 : decode cX2_order 14 = .ok (.ifCond .ne 13, 3) := by decide +kernel
theorem dX2_order_17 : decode cX2_order 17 = .ok (.iload_n 3, 1) := by decide +kernel
theorem dX2_order_18 : decode cX2_order 18 = .ok (.iconst 1, 1) := by decide +kernel
theorem dX2_order_19 : decode cX2_order 19 = .ok (.bipush 40, 2) := by decide +kernel
theorem dX2_order_21 : decode cX2_order 21 = .ok (.invokestatic 39, 3) := by decide +kernel
theorem dX2_order_24 : decode cX2_order 24 = .ok (.ifCond .eq 13, 3) := by decide +kernel
theorem dX2_order_27 : decode cX2_order 27 = .ok (.new 43, 3) := by decide +kernel
theorem dX2_order_30 : decode cX2_order 30 = .ok (.dup, 1) := by decide +kernel
theorem dX2_order_31 : decode cX2_order 31 = .ok (.ldc 100, 2) := by decide +kernel
theorem dX2_order_33 : decode cX2_order 33 = .ok (.invokespecial 47, 3) := by decide +kernel
theorem dX2_order_36 : decode cX2_order 36 = .ok (.athrow, 1) := by decide +kernel
theorem dX2_order_37 : decode cX2_order 37 = .ok (.aload 4, 2) := by decide +kernel
theorem dX2_order_39 : decode cX2_order 39 = .ok (.getfield 102, 3) := by decide +kernel
theorem dX2_order_42 : decode cX2_order 42 = .ok (.istore 5, 2) := by decide +kernel
theorem dX2_order_44 : decode cX2_order 44 = .ok (.aload 4, 2) := by decide +kernel
theorem dX2_order_46 : decode cX2_order 46 = .ok (.iload_n 2, 1) := by decide +kernel
theorem dX2_order_47 : decode cX2_order 47 = .ok (.putfield 102, 3) := by decide +kernel
theorem dX2_order_50 : decode cX2_order 50 = .ok (.aload 4, 2) := by decide +kernel
theorem dX2_order_52 : decode cX2_order 52 = .ok (.iload_n 3, 1) := by decide +kernel
theorem dX2_order_53 : decode cX2_order 53 = .ok (.putfield 105, 3) := by decide +kernel
theorem dX2_order_56 : decode cX2_order 56 = .ok (.iload 5, 2) := by decide +kernel
theorem dX2_order_58 : decode cX2_order 58 = .ok (.ireturn, 1) := by decide +kernel
theorem dX2_run_0 : decode cX2_run 0 = .ok (.iload_n 1, 1) := by decide +kernel
theorem dX2_run_1 : decode cX2_run 1 = .ok (.iconst 1, 1) := by decide +kernel
theorem dX2_run_2 : decode cX2_run 2 = .ok (.sipush 500, 3) := by decide +kernel
theorem dX2_run_5 : decode cX2_run 5 = .ok (.invokestatic 39, 3) := by decide +kernel
theorem dX2_run_8 : decode cX2_run 8 = .ok (.ifCond .eq 13, 3) := by decide +kernel
theorem dX2_run_11 : decode cX2_run 11 = .ok (.new 43, 3) := by decide +kernel
theorem dX2_run_14 : decode cX2_run 14 = .ok (.dup, 1) := by decide +kernel
theorem dX2_run_15 : decode cX2_run 15 = .ok (.ldc 108, 2) := by decide +kernel
theorem dX2_run_17 : decode cX2_run 17 = .ok (.invokespecial 47, 3) := by decide +kernel
theorem dX2_run_20 : decode cX2_run 20 = .ok (.athrow, 1) := by decide +kernel
theorem dX2_run_21 : decode cX2_run 21 = .ok (.aload_n 0, 1) := by decide +kernel
theorem dX2_run_22 : decode cX2_run 22 = .ok (.getfield 32, 3) := by decide +kernel
theorem dX2_run_25 : decode cX2_run 25 = .ok (.ifCond .ne 13, 3) := by decide +kernel
theorem dX2_run_28 : decode cX2_run 28 = .ok (.new 61, 3) := by decide +kernel
theorem dX2_run_31 : decode cX2_run 31 = .ok (.dup, 1) := by decide +kernel
theorem dX2_run_32 : decode cX2_run 32 = .ok (.ldc 110, 2) := by decide +kernel
theorem dX2_run_34 : decode cX2_run 34 = .ok (.invokespecial 65, 3) := by decide +kernel
theorem dX2_run_37 : decode cX2_run 37 = .ok (.athrow, 1) := by decide +kernel
theorem dX2_run_38 : decode cX2_run 38 = .ok (.iconst 0, 1) := by decide +kernel
theorem dX2_run_39 : decode cX2_run 39 = .ok (.istore_n 2, 1) := by decide +kernel
theorem dX2_run_40 : decode cX2_run 40 = .ok (.iload_n 2, 1) := by decide +kernel
theorem dX2_run_41 : decode cX2_run 41 = .ok (.iload_n 1, 1) := by decide +kernel
theorem dX2_run_42 : decode cX2_run 42 = .ok (.if_icmp .ge 13, 3) := by decide +kernel
theorem dX2_run_45 : decode cX2_run 45 = .ok (.aload_n 0, 1) := by decide +kernel
theorem dX2_run_46 : decode cX2_run 46 = .ok (.invokevirtual 112, 3) := by decide +kernel
theorem dX2_run_49 : decode cX2_run 49 = .ok (.iinc 2 1, 3) := by decide +kernel
theorem dX2_run_52 : decode cX2_run 52 = .ok (.goto (-12), 3) := by decide +kernel
theorem dX2_run_55 : decode cX2_run 55 = .ok (.aload_n 0, 1) := by decide +kernel
theorem dX2_run_56 : decode cX2_run 56 = .ok (.invokevirtual 115, 3) := by decide +kernel
theorem dX2_run_59 : decode cX2_run 59 = .ok (.ireturn, 1) := by decide +kernel
theorem dX2_restart_0 : decode cX2_restart 0 = .ok (.aload_n 0, 1) := by decide +kernel
theorem dX2_restart_1 : decode cX2_restart 1 = .ok (.iconst 0, 1) := by decide +kernel
theorem dX2_restart_2 : decode cX2_restart 2 = .ok (.putfield 36, 3) := by decide +kernel
theorem dX2_restart_5 : decode cX2_restart 5 = .ok (.aload_n 0, 1) := by decide +kernel
theorem dX2_restart_6 : decode cX2_restart 6 = .ok (.getfield 18, 3) := by decide +kernel
theorem dX2_restart_9 : decode cX2_restart 9 = .ok (.astore_n 1, 1) := by decide +kernel
theorem dX2_restart_10 : decode cX2_restart 10 = .ok (.aload_n 1, 1) := by decide +kernel
theorem dX2_restart_11 : decode cX2_restart 11 = .ok (.arraylength, 1) := by decide +kernel
theorem dX2_restart_12 : decode cX2_restart 12 = .ok (.istore_n 2, 1) := by decide +kernel
theorem dX2_restart_13 : decode cX2_restart 13 = .ok (.iconst 0, 1) := by decide +kernel
theorem dX2_restart_14 : decode cX2_restart 14 = .ok (.istore_n 3, 1) := by decide +kernel
theorem dX2_restart_15 : decode cX2_restart 15 = .ok (.iload_n 3, 1) := by decide +kernel
theorem dX2_restart_16 : decode cX2_restart 16 = .ok (.iload_n 2, 1) := by decide +kernel
theorem dX2_restart_17 : decode cX2_restart 17 = .ok (.if_icmp .ge 24, 3) := by decide +kernel
theorem dX2_restart_20 : decode cX2_restart 20 = .ok (.aload_n 1, 1) := by decide +kernel
theorem dX2_restart_21 : decode cX2_restart 21 = .ok (.iload_n 3, 1) := by decide +kernel
theorem dX2_restart_22 : decode cX2_restart 22 = .ok (.aaload, 1) := by decide +kernel
theorem dX2_restart_23 : decode cX2_restart 23 = .ok (.astore 4, 2) := by decide +kernel
theorem dX2_restart_25 : decode cX2_restart 25 = .ok (.aload 4, 2) := by decide +kernel
theorem dX2_restart_27 : decode cX2_restart 27 = .ok (.ifnull 8, 3) := by decide +kernel
theorem dX2_restart_30 : decode cX2_restart 30 = .ok (.aload 4, 2) := by decide +kernel
theorem dX2_restart_32 : decode cX2_restart 32 = .ok (.invokevirtual 119, 3) := by decide +kernel
theorem dX2_restart_35 : decode cX2_restart 35 = .ok (.iinc 3 1, 3) := by decide +kernel
theorem dX2_restart_38 : decode cX2_restart 38 = .ok (.goto (-23), 3) := by decide +kernel
theorem dX2_restart_41 : decode cX2_restart 41 = .ok (.aload_n 0, 1) := by decide +kernel
theorem dX2_restart_42 : decode cX2_restart 42 = .ok (.getfield 32, 3) := by decide +kernel
theorem dX2_restart_45 : decode cX2_restart 45 = .ok (.ireturn, 1) := by decide +kernel
theorem dX2_count_0 : decode cX2_count 0 = .ok (.iload_n 1, 1) := by decide +kernel
theorem dX2_count_1 : decode cX2_count 1 = .ok (.iconst 0, 1) := by decide +kernel
theorem dX2_count_2 : decode cX2_count 2 = .ok (.iconst 5, 1) := by decide +kernel
theorem dX2_count_3 : decode cX2_count 3 = .ok (.invokestatic 39, 3) := by decide +kernel
theorem dX2_count_6 : decode cX2_count 6 = .ok (.ifCond .eq 13, 3) := by decide +kernel
theorem dX2_count_9 : decode cX2_count 9 = .ok (.new 122, 3) := by decide +kernel
theorem dX2_count_12 : decode cX2_count 12 = .ok (.dup, 1) := by decide +kernel
theorem dX2_count_13 : decode cX2_count 13 = .ok (.ldc 124, 2) := by decide +kernel
theorem dX2_count_15 : decode cX2_count 15 = .ok (.invokespecial 126, 3) := by decide +kernel
theorem dX2_count_18 : decode cX2_count 18 = .ok (.athrow, 1) := by decide +kernel
theorem dX2_count_19 : decode cX2_count 19 = .ok (.aload_n 0, 1) := by decide +kernel
theorem dX2_count_20 : decode cX2_count 20 = .ok (.iload_n 1, 1) := by decide +kernel
theorem dX2_count_21 : decode cX2_count 21 = .ok (.invokevirtual 127, 3) := by decide +kernel
theorem dX2_count_24 : decode cX2_count 24 = .ok (.ireturn, 1) := by decide +kernel
theorem dX2_team_0 : decode cX2_team 0 = .ok (.aload_n 0, 1) := by decide +kernel
theorem dX2_team_1 : decode cX2_team 1 = .ok (.iload_n 1, 1) := by decide +kernel
theorem dX2_team_2 : decode cX2_team 2 = .ok (.invokevirtual 79, 3) := by decide +kernel
theorem dX2_team_5 : decode cX2_team 5 = .ok (.astore_n 3, 1) := by decide +kernel
theorem dX2_team_6 : decode cX2_team 6 = .ok (.iload_n 2, 1) := by decide +kernel
theorem dX2_team_7 : decode cX2_team 7 = .ok (.iconst 0, 1) := by decide +kernel
theorem dX2_team_8 : decode cX2_team 8 = .ok (.bipush 11, 2) := by decide +kernel
theorem dX2_team_10 : decode cX2_team 10 = .ok (.invokestatic 39, 3) := by decide +kernel
theorem dX2_team_13 : decode cX2_team 13 = .ok (.ifCond .eq 13, 3) := by decide +kernel
theorem dX2_team_16 : decode cX2_team 16 = .ok (.new 122, 3) := by decide +kernel
theorem dX2_team_19 : decode cX2_team 19 = .ok (.dup, 1) := by decide +kernel
theorem dX2_team_20 : decode cX2_team 20 = .ok (.ldc 131, 2) := by decide +kernel
theorem dX2_team_22 : decode cX2_team 22 = .ok (.invokespecial 126, 3) := by decide +kernel
theorem dX2_team_25 : decode cX2_team 25 = .ok (.athrow, 1) := by decide +kernel
theorem dX2_team_26 : decode cX2_team 26 = .ok (.aload_n 3, 1) := by decide +kernel
theorem dX2_team_27 : decode cX2_team 27 = .ok (.iload_n 2, 1) := by decide +kernel
theorem dX2_team_28 : decode cX2_team 28 = .ok (.invokevirtual 133, 3) := by decide +kernel
theorem dX2_team_31 : decode cX2_team 31 = .ok (.ireturn, 1) := by decide +kernel
theorem dX2_roller_0 : decode cX2_roller 0 = .ok (.aload_n 0, 1) := by decide +kernel
theorem dX2_roller_1 : decode cX2_roller 1 = .ok (.iload_n 1, 1) := by decide +kernel
theorem dX2_roller_2 : decode cX2_roller 2 = .ok (.invokevirtual 79, 3) := by decide +kernel
theorem dX2_roller_5 : decode cX2_roller 5 = .ok (.astore_n 3, 1) := by decide +kernel
theorem dX2_roller_6 : decode cX2_roller 6 = .ok (.iload_n 2, 1) := by decide +kernel
theorem dX2_roller_7 : decode cX2_roller 7 = .ok (.ifCond .lt 20, 3) := by decide +kernel
theorem dX2_roller_10 : decode cX2_roller 10 = .ok (.iload_n 2, 1) := by decide +kernel
theorem dX2_roller_11 : decode cX2_roller 11 = .ok (.aload_n 3, 1) := by decide +kernel
theorem dX2_roller_12 : decode cX2_roller 12 = .ok (.getfield 136, 3) := by decide +kernel
theorem dX2_roller_15 : decode cX2_roller 15 = .ok (.if_icmp .ge 12, 3) := by decide +kernel
theorem dX2_roller_18 : decode cX2_roller 18 = .ok (.iload_n 2, 1) := by decide +kernel
theorem dX2_roller_19 : decode cX2_roller 19 = .ok (.aload_n 3, 1) := by decide +kernel
theorem dX2_roller_20 : decode cX2_roller 20 = .ok (.getfield 139, 3) := by decide +kernel
theorem dX2_roller_23 : decode cX2_roller 23 = .ok (.arraylength, 1) := by decide +kernel
theorem dX2_roller_24 : decode cX2_roller 24 = .ok (.if_icmp .lt 13, 3) := by decide +kernel
theorem dX2_roller_27 : decode cX2_roller 27 = .ok (.new 122, 3) := by decide +kernel
theorem dX2_roller_30 : decode cX2_roller 30 = .ok (.dup, 1) := by decide +kernel
theorem dX2_roller_31 : decode cX2_roller 31 = .ok (.ldc 143, 2) := by decide +kernel
theorem dX2_roller_33 : decode cX2_roller 33 = .ok (.invokespecial 126, 3) := by decide +kernel
theorem dX2_roller_36 : decode cX2_roller 36 = .ok (.athrow, 1) := by decide +kernel
theorem dX2_roller_37 : decode cX2_roller 37 = .ok (.aload_n 3, 1) := by decide +kernel
theorem dX2_roller_38 : decode cX2_roller 38 = .ok (.getfield 139, 3) := by decide +kernel
theorem dX2_roller_41 : decode cX2_roller 41 = .ok (.iload_n 2, 1) := by decide +kernel
theorem dX2_roller_42 : decode cX2_roller 42 = .ok (.iaload, 1) := by decide +kernel
theorem dX2_roller_43 : decode cX2_roller 43 = .ok (.istore 4, 2) := by decide +kernel
theorem dX2_roller_45 : decode cX2_roller 45 = .ok (.iload 4, 2) := by decide +kernel
theorem dX2_roller_47 : decode cX2_roller 47 = .ok (.sipush (-9999), 3) := by decide +kernel
theorem dX2_roller_50 : decode cX2_roller 50 = .ok (.if_icmp .ne 13, 3) := by decide +kernel
theorem dX2_roller_53 : decode cX2_roller 53 = .ok (.new 61, 3) := by decide +kernel
theorem dX2_roller_56 : decode cX2_roller 56 = .ok (.dup, 1) := by decide +kernel
theorem dX2_roller_57 : decode cX2_roller 57 = .ok (.ldc 145, 2) := by decide +kernel
theorem dX2_roller_59 : decode cX2_roller 59 = .ok (.invokespecial 65, 3) := by decide +kernel
theorem dX2_roller_62 : decode cX2_roller 62 = .ok (.athrow, 1) := by decide +kernel
theorem dX2_roller_63 : decode cX2_roller 63 = .ok (.iload 4, 2) := by decide +kernel
theorem dX2_roller_65 : decode cX2_roller 65 = .ok (.ireturn, 1) := by decide +kernel
theorem dX2_next_0 : decode cX2_next 0 = .ok (.aload_n 0, 1) := by decide +kernel
theorem dX2_next_1 : decode cX2_next 1 = .ok (.iload_n 1, 1) := by decide +kernel
theorem dX2_next_2 : decode cX2_next 2 = .ok (.invokevirtual 79, 3) := by decide +kernel
theorem dX2_next_5 : decode cX2_next 5 = .ok (.astore_n 3, 1) := by decide +kernel
theorem dX2_next_6 : decode cX2_next 6 = .ok (.iload_n 2, 1) := by decide +kernel
theorem dX2_next_7 : decode cX2_next 7 = .ok (.iconst 0, 1) := by decide +kernel
theorem dX2_next_8 : decode cX2_next 8 = .ok (.iconst 2, 1) := by decide +kernel
theorem dX2_next_9 : decode cX2_next 9 = .ok (.invokestatic 39, 3) := by decide +kernel
theorem dX2_next_12 : decode cX2_next 12 = .ok (.ifCond .eq 13, 3) := by decide +kernel
theorem dX2_next_15 : decode cX2_next 15 = .ok (.new 122, 3) := by decide +kernel
theorem dX2_next_18 : decode cX2_next 18 = .ok (.dup, 1) := by decide +kernel
theorem dX2_next_19 : decode cX2_next 19 = .ok (.ldc 147, 2) := by decide +kernel
theorem dX2_next_21 : decode cX2_next 21 = .ok (.invokespecial 126, 3) := by decide +kernel
theorem dX2_next_24 : decode cX2_next 24 = .ok (.athrow, 1) := by decide +kernel
theorem dX2_next_25 : decode cX2_next 25 = .ok (.iload_n 2, 1) := by decide +kernel
theorem dX2_next_26 : decode cX2_next 26 = .ok (.ifCond .ne 8, 3) := by decide +kernel
theorem dX2_next_29 : decode cX2_next 29 = .ok (.aload_n 3, 1) := by decide +kernel
theorem dX2_next_30 : decode cX2_next 30 = .ok (.invokevirtual 149, 3) := by decide +kernel
theorem dX2_next_33 : decode cX2_next 33 = .ok (.ireturn, 1) := by decide +kernel
theorem dX2_next_34 : decode cX2_next 34 = .ok (.iload_n 2, 1) := by decide +kernel
theorem dX2_next_35 : decode cX2_next 35 = .ok (.iconst 1, 1) := by decide +kernel
theorem dX2_next_36 : decode cX2_next 36 = .ok (.if_icmp .ne 14, 3) := by decide +kernel
theorem dX2_next_39 : decode cX2_next 39 = .ok (.aload_n 3, 1) := by decide +kernel
theorem dX2_next_40 : decode cX2_next 40 = .ok (.aload_n 0, 1) := by decide +kernel
theorem dX2_next_41 : decode cX2_next 41 = .ok (.getfield 10, 3) := by decide +kernel
theorem dX2_next_44 : decode cX2_next 44 = .ok (.invokevirtual 152, 3) := by decide +kernel
theorem dX2_next_47 : decode cX2_next 47 = .ok (.goto 19, 3) := by decide +kernel
theorem dX2_next_50 : decode cX2_next 50 = .ok (.aload_n 3, 1) := by decide +kernel
theorem dX2_next_51 : decode cX2_next 51 = .ok (.aload_n 3, 1) := by decide +kernel
theorem dX2_next_52 : decode cX2_next 52 = .ok (.invokevirtual 149, 3) := by decide +kernel
theorem dX2_next_55 : decode cX2_next 55 = .ok (.aload_n 3, 1) := by decide +kernel
theorem dX2_next_56 : decode cX2_next 56 = .ok (.aload_n 0, 1) := by decide +kernel
theorem dX2_next_57 : decode cX2_next 57 = .ok (.getfield 10, 3) := by decide +kernel
theorem dX2_next_60 : decode cX2_next 60 = .ok (.invokevirtual 152, 3) := by decide +kernel
theorem dX2_next_63 : decode cX2_next 63 = .ok (.invokevirtual 156, 3) := by decide +kernel
theorem dX2_next_66 : decode cX2_next 66 = .ok (.ireturn, 1) := by decide +kernel
theorem dX2_ranked_0 : decode cX2_ranked 0 = .ok (.iload_n 1, 1) := by decide +kernel
theorem dX2_ranked_1 : decode cX2_ranked 1 = .ok (.ifCond .lt 11, 3) := by decide +kernel
theorem dX2_ranked_4 : decode cX2_ranked 4 = .ok (.iload_n 1, 1) := by decide +kernel
theorem dX2_ranked_5 : decode cX2_ranked 5 = .ok (.aload_n 0, 1) := by decide +kernel
theorem dX2_ranked_6 : decode cX2_ranked 6 = .ok (.getfield 32, 3) := by decide +kernel
theorem dX2_ranked_9 : decode cX2_ranked 9 = .ok (.if_icmp .lt 13, 3) := by decide +kernel
theorem dX2_ranked_12 : decode cX2_ranked 12 = .ok (.new 122, 3) := by decide +kernel
theorem dX2_ranked_15 : decode cX2_ranked 15 = .ok (.dup, 1) := by decide +kernel
theorem dX2_ranked_16 : decode cX2_ranked 16 = .ok (.ldc 160, 2) := by decide +kernel
theorem dX2_ranked_18 : decode cX2_ranked 18 = .ok (.invokespecial 126, 3) := by decide +kernel
theorem dX2_ranked_21 : decode cX2_ranked 21 = .ok (.athrow, 1) := by decide +kernel
theorem dX2_ranked_22 : decode cX2_ranked 22 = .ok (.aload_n 0, 1) := by decide +kernel
theorem dX2_ranked_23 : decode cX2_ranked 23 = .ok (.iload_n 1, 1) := by decide +kernel
theorem dX2_ranked_24 : decode cX2_ranked 24 = .ok (.invokevirtual 162, 3) := by decide +kernel
theorem dX2_ranked_27 : decode cX2_ranked 27 = .ok (.ireturn, 1) := by decide +kernel
theorem dX2_foresee_0 : decode cX2_foresee 0 = .ok (.aload_n 0, 1) := by decide +kernel
theorem dX2_foresee_1 : decode cX2_foresee 1 = .ok (.iload_n 1, 1) := by decide +kernel
theorem dX2_foresee_2 : decode cX2_foresee 2 = .ok (.invokevirtual 79, 3) := by decide +kernel
theorem dX2_foresee_5 : decode cX2_foresee 5 = .ok (.astore 4, 2) := by decide +kernel
theorem dX2_foresee_7 : decode cX2_foresee 7 = .ok (.iload_n 3, 1) := by decide +kernel
theorem dX2_foresee_8 : decode cX2_foresee 8 = .ok (.iconst 0, 1) := by decide +kernel
theorem dX2_foresee_9 : decode cX2_foresee 9 = .ok (.iconst 2, 1) := by decide +kernel
theorem dX2_foresee_10 : decode cX2_foresee 10 = .ok (.invokestatic 39, 3) := by decide +kernel
theorem dX2_foresee_13 : decode cX2_foresee 13 = .ok (.ifCond .eq 13, 3) := by decide +kernel
theorem dX2_foresee_16 : decode cX2_foresee 16 = .ok (.new 122, 3) := by decide +kernel
theorem dX2_foresee_19 : decode cX2_foresee 19 = .ok (.dup, 1) := by decide +kernel
theorem dX2_foresee_20 : decode cX2_foresee 20 = .ok (.ldc 147, 2) := by decide +kernel
theorem dX2_foresee_22 : decode cX2_foresee 22 = .ok (.invokespecial 126, 3) := by decide +kernel
theorem dX2_foresee_25 : decode cX2_foresee 25 = .ok (.athrow, 1) := by decide +kernel
theorem dX2_foresee_26 : decode cX2_foresee 26 = .ok (.iload_n 2, 1) := by decide +kernel
theorem dX2_foresee_27 : decode cX2_foresee 27 = .ok (.iconst 1, 1) := by decide +kernel
theorem dX2_foresee_28 : decode cX2_foresee 28 = .ok (.sipush 400, 3) := by decide +kernel
theorem dX2_foresee_31 : decode cX2_foresee 31 = .ok (.invokestatic 39, 3) := by decide +kernel
theorem dX2_foresee_34 : decode cX2_foresee 34 = .ok (.ifCond .eq 13, 3) := by decide +kernel
theorem dX2_foresee_37 : decode cX2_foresee 37 = .ok (.new 43, 3) := by decide +kernel
theorem dX2_foresee_40 : decode cX2_foresee 40 = .ok (.dup, 1) := by decide +kernel
theorem dX2_foresee_41 : decode cX2_foresee 41 = .ok (.ldc 165, 2) := by decide +kernel
theorem dX2_foresee_43 : decode cX2_foresee 43 = .ok (.invokespecial 47, 3) := by decide +kernel
theorem dX2_foresee_46 : decode cX2_foresee 46 = .ok (.athrow, 1) := by decide +kernel
theorem dX2_foresee_47 : decode cX2_foresee 47 = .ok (.aload_n 0, 1) := by decide +kernel
theorem dX2_foresee_48 : decode cX2_foresee 48 = .ok (.aload_n 0, 1) := by decide +kernel
theorem dX2_foresee_49 : decode cX2_foresee 49 = .ok (.getfield 25, 3) := by decide +kernel
theorem dX2_foresee_52 : decode cX2_foresee 52 = .ok (.aload 4, 2) := by decide +kernel
theorem dX2_foresee_54 : decode cX2_foresee 54 = .ok (.aload 4, 2) := by decide +kernel
theorem dX2_foresee_56 : decode cX2_foresee 56 = .ok (.getfield 102, 3) := by decide +kernel
theorem dX2_foresee_59 : decode cX2_foresee 59 = .ok (.iload_n 2, 1) := by decide +kernel
theorem dX2_foresee_60 : decode cX2_foresee 60 = .ok (.invokevirtual 167, 3) := by decide +kernel
theorem dX2_foresee_63 : decode cX2_foresee 63 = .ok (.iload_n 3, 1) := by decide +kernel
theorem dX2_foresee_64 : decode cX2_foresee 64 = .ok (.ifCond .ne 11, 3) := by decide +kernel
theorem dX2_foresee_67 : decode cX2_foresee 67 = .ok (.aload_n 0, 1) := by decide +kernel
theorem dX2_foresee_68 : decode cX2_foresee 68 = .ok (.getfield 25, 3) := by decide +kernel
theorem dX2_foresee_71 : decode cX2_foresee 71 = .ok (.getfield 171, 3) := by decide +kernel
theorem dX2_foresee_74 : decode cX2_foresee 74 = .ok (.ireturn, 1) := by decide +kernel
theorem dX2_foresee_75 : decode cX2_foresee 75 = .ok (.iload_n 3, 1) := by decide +kernel
theorem dX2_foresee_76 : decode cX2_foresee 76 = .ok (.iconst 1, 1) := by decide +kernel
theorem dX2_foresee_77 : decode cX2_foresee 77 = .ok (.if_icmp .ne 11, 3) := by decide +kernel
theorem dX2_foresee_80 : decode cX2_foresee 80 = .ok (.aload_n 0, 1) := by decide +kernel
theorem dX2_foresee_81 : decode cX2_foresee 81 = .ok (.iload_n 2, 1) := by decide +kernel
theorem dX2_foresee_82 : decode cX2_foresee 82 = .ok (.invokevirtual 174, 3) := by decide +kernel
theorem dX2_foresee_85 : decode cX2_foresee 85 = .ok (.goto 10, 3) := by decide +kernel
theorem dX2_foresee_88 : decode cX2_foresee 88 = .ok (.aload_n 0, 1) := by decide +kernel
theorem dX2_foresee_89 : decode cX2_foresee 89 = .ok (.getfield 25, 3) := by decide +kernel
theorem dX2_foresee_92 : decode cX2_foresee 92 = .ok (.getfield 177, 3) := by decide +kernel
theorem dX2_foresee_95 : decode cX2_foresee 95 = .ok (.ireturn, 1) := by decide +kernel
theorem dX2_advise_0 : decode cX2_advise 0 = .ok (.aload_n 0, 1) := by decide +kernel
theorem dX2_advise_1 : decode cX2_advise 1 = .ok (.iload_n 1, 1) := by decide +kernel
theorem dX2_advise_2 : decode cX2_advise 2 = .ok (.invokevirtual 79, 3) := by decide +kernel
theorem dX2_advise_5 : decode cX2_advise 5 = .ok (.astore_n 3, 1) := by decide +kernel
theorem dX2_advise_6 : decode cX2_advise 6 = .ok (.iload_n 2, 1) := by decide +kernel
theorem dX2_advise_7 : decode cX2_advise 7 = .ok (.iconst 1, 1) := by decide +kernel
theorem dX2_advise_8 : decode cX2_advise 8 = .ok (.sipush 200, 3) := by decide +kernel
theorem dX2_advise_11 : decode cX2_advise 11 = .ok (.invokestatic 39, 3) := by decide +kernel
theorem dX2_advise_14 : decode cX2_advise 14 = .ok (.ifCond .eq 13, 3) := by decide +kernel
theorem dX2_advise_17 : decode cX2_advise 17 = .ok (.new 43, 3) := by decide +kernel
theorem dX2_advise_20 : decode cX2_advise 20 = .ok (.dup, 1) := by decide +kernel
theorem dX2_advise_21 : decode cX2_advise 21 = .ok (.ldc 180, 2) := by decide +kernel
theorem dX2_advise_23 : decode cX2_advise 23 = .ok (.invokespecial 47, 3) := by decide +kernel
theorem dX2_advise_26 : decode cX2_advise 26 = .ok (.athrow, 1) := by decide +kernel
theorem dX2_advise_27 : decode cX2_advise 27 = .ok (.iconst 0, 1) := by decide +kernel
theorem dX2_advise_28 : decode cX2_advise 28 = .ok (.istore 4, 2) := by decide +kernel
theorem dX2_advise_30 : decode cX2_advise 30 = .ok (.iconst (-1), 1) := by decide +kernel
theorem dX2_advise_31 : decode cX2_advise 31 = .ok (.istore 5, 2) := by decide +kernel
theorem dX2_advise_33 : decode cX2_advise 33 = .ok (.iconst 0, 1) := by decide +kernel
theorem dX2_advise_34 : decode cX2_advise 34 = .ok (.istore 6, 2) := by decide +kernel
theorem dX2_advise_36 : decode cX2_advise 36 = .ok (.iload 6, 2) := by decide +kernel
theorem dX2_advise_38 : decode cX2_advise 38 = .ok (.bipush 10, 2) := by decide +kernel
theorem dX2_advise_40 : decode cX2_advise 40 = .ok (.if_icmp .gt 46, 3) := by decide +kernel
theorem dX2_advise_43 : decode cX2_advise 43 = .ok (.aload_n 0, 1) := by decide +kernel
theorem dX2_advise_44 : decode cX2_advise 44 = .ok (.aload_n 0, 1) := by decide +kernel
theorem dX2_advise_45 : decode cX2_advise 45 = .ok (.getfield 25, 3) := by decide +kernel
theorem dX2_advise_48 : decode cX2_advise 48 = .ok (.aload_n 3, 1) := by decide +kernel
theorem dX2_advise_49 : decode cX2_advise 49 = .ok (.iload 6, 2) := by decide +kernel
theorem dX2_advise_51 : decode cX2_advise 51 = .ok (.iload_n 2, 1) := by decide +kernel
theorem dX2_advise_52 : decode cX2_advise 52 = .ok (.invokevirtual 167, 3) := by decide +kernel
theorem dX2_advise_55 : decode cX2_advise 55 = .ok (.aload_n 0, 1) := by decide +kernel
theorem dX2_advise_56 : decode cX2_advise 56 = .ok (.getfield 25, 3) := by decide +kernel
theorem dX2_advise_59 : decode cX2_advise 59 = .ok (.getfield 171, 3) := by decide +kernel
theorem dX2_advise_62 : decode cX2_advise 62 = .ok (.iload 5, 2) := by decide +kernel
theorem dX2_advise_64 : decode cX2_advise 64 = .ok (.if_icmp .le 16, 3) := by decide +kernel
theorem dX2_advise_67 : decode cX2_advise 67 = .ok (.aload_n 0, 1) := by decide +kernel
theorem dX2_advise_68 : decode cX2_advise 68 = .ok (.getfield 25, 3) := by decide +kernel
theorem dX2_advise_71 : decode cX2_advise 71 = .ok (.getfield 171, 3) := by decide +kernel
theorem dX2_advise_74 : decode cX2_advise 74 = .ok (.istore 5, 2) := by decide +kernel
theorem dX2_advise_76 : decode cX2_advise 76 = .ok (.iload 6, 2) := by decide +kernel
theorem dX2_advise_78 : decode cX2_advise 78 = .ok (.istore 4, 2) := by decide +kernel
theorem dX2_advise_80 : decode cX2_advise 80 = .ok (.iinc 6 1, 3) := by decide +kernel
theorem dX2_advise_83 : decode cX2_advise 83 = .ok (.goto (-47), 3) := by decide +kernel
theorem dX2_advise_86 : decode cX2_advise 86 = .ok (.iload 4, 2) := by decide +kernel
theorem dX2_advise_88 : decode cX2_advise 88 = .ok (.ireturn, 1) := by decide +kernel
theorem dX2_mean_0 : decode cX2_mean 0 = .ok (.aload_n 0, 1) := by decide +kernel
theorem dX2_mean_1 : decode cX2_mean 1 = .ok (.getfield 32, 3) := by decide +kernel
theorem dX2_mean_4 : decode cX2_mean 4 = .ok (.ifCond .gt 5, 3) := by decide +kernel
theorem dX2_mean_7 : decode cX2_mean 7 = .ok (.dconst 0, 1) := by decide +kernel
theorem dX2_mean_8 : decode cX2_mean 8 = .ok (.dreturn, 1) := by decide +kernel
theorem dX2_mean_9 : decode cX2_mean 9 = .ok (.iconst 0, 1) := by decide +kernel
theorem dX2_mean_10 : decode cX2_mean 10 = .ok (.istore_n 1, 1) := by decide +kernel
theorem dX2_mean_11 : decode cX2_mean 11 = .ok (.aload_n 0, 1) := by decide +kernel
theorem dX2_mean_12 : decode cX2_mean 12 = .ok (.getfield 18, 3) := by decide +kernel
theorem dX2_mean_15 : decode cX2_mean 15 = .ok (.astore_n 2, 1) := by decide +kernel
theorem dX2_mean_16 : decode cX2_mean 16 = .ok (.aload_n 2, 1) := by decide +kernel
theorem dX2_mean_17 : decode cX2_mean 17 = .ok (.arraylength, 1) := by decide +kernel
theorem dX2_mean_18 : decode cX2_mean 18 = .ok (.istore_n 3, 1) := by decide +kernel
theorem dX2_mean_19 : decode cX2_mean 19 = .ok (.iconst 0, 1) := by decide +kernel
theorem dX2_mean_20 : decode cX2_mean 20 = .ok (.istore 4, 2) := by decide +kernel
theorem dX2_mean_22 : decode cX2_mean 22 = .ok (.iload 4, 2) := by decide +kernel
theorem dX2_mean_24 : decode cX2_mean 24 = .ok (.iload_n 3, 1) := by decide +kernel
theorem dX2_mean_25 : decode cX2_mean 25 = .ok (.if_icmp .ge 28, 3) := by decide +kernel
theorem dX2_mean_28 : decode cX2_mean 28 = .ok (.aload_n 2, 1) := by decide +kernel
theorem dX2_mean_29 : decode cX2_mean 29 = .ok (.iload 4, 2) := by decide +kernel
theorem dX2_mean_31 : decode cX2_mean 31 = .ok (.aaload, 1) := by decide +kernel
theorem dX2_mean_32 : decode cX2_mean 32 = .ok (.astore 5, 2) := by decide +kernel
theorem dX2_mean_34 : decode cX2_mean 34 = .ok (.aload 5, 2) := by decide +kernel
theorem dX2_mean_36 : decode cX2_mean 36 = .ok (.ifnull 11, 3) := by decide +kernel
theorem dX2_mean_39 : decode cX2_mean 39 = .ok (.iload_n 1, 1) := by decide +kernel
theorem dX2_mean_40 : decode cX2_mean 40 = .ok (.aload 5, 2) := by decide +kernel
theorem dX2_mean_42 : decode cX2_mean 42 = .ok (.getfield 171, 3) := by decide +kernel
theorem dX2_mean_45 : decode cX2_mean 45 = .ok (.iadd, 1) := by decide +kernel
theorem dX2_mean_46 : decode cX2_mean 46 = .ok (.istore_n 1, 1) := by decide +kernel
theorem dX2_mean_47 : decode cX2_mean 47 = .ok (.iinc 4 1, 3) := by decide +kernel
theorem dX2_mean_50 : decode cX2_mean 50 = .ok (.goto (-28), 3) := by decide +kernel
theorem dX2_mean_53 : decode cX2_mean 53 = .ok (.iload_n 1, 1) := by decide +kernel
theorem dX2_mean_54 : decode cX2_mean 54 = .ok (.i2d, 1) := by decide +kernel
theorem dX2_mean_55 : decode cX2_mean 55 = .ok (.aload_n 0, 1) := by decide +kernel
theorem dX2_mean_56 : decode cX2_mean 56 = .ok (.getfield 32, 3) := by decide +kernel
theorem dX2_mean_59 : decode cX2_mean 59 = .ok (.i2d, 1) := by decide +kernel
theorem dX2_mean_60 : decode cX2_mean 60 = .ok (.ddiv, 1) := by decide +kernel
theorem dX2_mean_61 : decode cX2_mean 61 = .ok (.dreturn, 1) := by decide +kernel
theorem dX2_digest_0 : decode cX2_digest 0 = .ok (.ldc2_w 182, 3) := by decide +kernel
theorem dX2_digest_3 : decode cX2_digest 3 = .ok (.lstore_n 1, 1) := by decide +kernel
theorem dX2_digest_4 : decode cX2_digest 4 = .ok (.iconst 0, 1) := by decide +kernel
theorem dX2_digest_5 : decode cX2_digest 5 = .ok (.istore_n 3, 1) := by decide +kernel
theorem dX2_digest_6 : decode cX2_digest 6 = .ok (.iload_n 3, 1) := by decide +kernel
theorem dX2_digest_7 : decode cX2_digest 7 = .ok (.bipush 6, 2) := by decide +kernel
theorem dX2_digest_9 : decode cX2_digest 9 = .ok (.if_icmp .ge 22, 3) := by decide +kernel
theorem dX2_digest_12 : decode cX2_digest 12 = .ok (.lload_n 1, 1) := by decide +kernel
theorem dX2_digest_13 : decode cX2_digest 13 = .ok (.ldc2_w 184, 3) := by decide +kernel
theorem dX2_digest_16 : decode cX2_digest 16 = .ok (.lmul, 1) := by decide +kernel
theorem dX2_digest_17 : decode cX2_digest 17 = .ok (.aload_n 0, 1) := by decide +kernel
theorem dX2_digest_18 : decode cX2_digest 18 = .ok (.iload_n 3, 1) := by decide +kernel
theorem dX2_digest_19 : decode cX2_digest 19 = .ok (.invokevirtual 127, 3) := by decide +kernel
theorem dX2_digest_22 : decode cX2_digest 22 = .ok (.i2l, 1) := by decide +kernel
theorem dX2_digest_23 : decode cX2_digest 23 = .ok (.ladd, 1) := by decide +kernel
theorem dX2_digest_24 : decode cX2_digest 24 = .ok (.lstore_n 1, 1) := by decide +kernel
theorem dX2_digest_25 : decode cX2_digest 25 = .ok (.iinc 3 1, 3) := by decide +kernel
theorem dX2_digest_28 : decode cX2_digest 28 = .ok (.goto (-22), 3) := by decide +kernel
theorem dX2_digest_31 : decode cX2_digest 31 = .ok (.aload_n 0, 1) := by decide +kernel
theorem dX2_digest_32 : decode cX2_digest 32 = .ok (.getfield 18, 3) := by decide +kernel
theorem dX2_digest_35 : decode cX2_digest 35 = .ok (.astore_n 3, 1) := by decide +kernel
theorem dX2_digest_36 : decode cX2_digest 36 = .ok (.aload_n 3, 1) := by decide +kernel
theorem dX2_digest_37 : decode cX2_digest 37 = .ok (.arraylength, 1) := by decide +kernel
theorem dX2_digest_38 : decode cX2_digest 38 = .ok (.istore 4, 2) := by decide +kernel
theorem dX2_digest_40 : decode cX2_digest 40 = .ok (.iconst 0, 1) := by decide +kernel
theorem dX2_digest_41 : decode cX2_digest 41 = .ok (.istore 5, 2) := by decide +kernel
theorem dX2_digest_43 : decode cX2_digest 43 = .ok (.iload 5, 2) := by decide +kernel
theorem dX2_digest_45 : decode cX2_digest 45 = .ok (.iload 4, 2) := by decide +kernel
theorem dX2_digest_47 : decode cX2_digest 47 = .ok (.if_icmp .ge 27, 3) := by decide +kernel
theorem dX2_digest_50 : decode cX2_digest 50 = .ok (.aload_n 3, 1) := by decide +kernel
theorem dX2_digest_51 : decode cX2_digest 51 = .ok (.iload 5, 2) := by decide +kernel
theorem dX2_digest_53 : decode cX2_digest 53 = .ok (.aaload, 1) := by decide +kernel
theorem dX2_digest_54 : decode cX2_digest 54 = .ok (.astore 6, 2) := by decide +kernel
theorem dX2_digest_56 : decode cX2_digest 56 = .ok (.aload 6, 2) := by decide +kernel
theorem dX2_digest_58 : decode cX2_digest 58 = .ok (.ifnull 10, 3) := by decide +kernel
theorem dX2_digest_61 : decode cX2_digest 61 = .ok (.aload 6, 2) := by decide +kernel
theorem dX2_digest_63 : decode cX2_digest 63 = .ok (.lload_n 1, 1) := by decide +kernel
theorem dX2_digest_64 : decode cX2_digest 64 = .ok (.invokevirtual 186, 3) := by decide +kernel
theorem dX2_digest_67 : decode cX2_digest 67 = .ok (.lstore_n 1, 1) := by decide +kernel
theorem dX2_digest_68 : decode cX2_digest 68 = .ok (.iinc 5 1, 3) := by decide +kernel
theorem dX2_digest_71 : decode cX2_digest 71 = .ok (.goto (-28), 3) := by decide +kernel
theorem dX2_digest_74 : decode cX2_digest 74 = .ok (.iconst 0, 1) := by decide +kernel
theorem dX2_digest_75 : decode cX2_digest 75 = .ok (.istore_n 3, 1) := by decide +kernel
theorem dX2_digest_76 : decode cX2_digest 76 = .ok (.iload_n 3, 1) := by decide +kernel
theorem dX2_digest_77 : decode cX2_digest 77 = .ok (.aload_n 0, 1) := by decide +kernel
theorem dX2_digest_78 : decode cX2_digest 78 = .ok (.getfield 32, 3) := by decide +kernel
theorem dX2_digest_81 : decode cX2_digest 81 = .ok (.if_icmp .ge 22, 3) := by decide +kernel
theorem dX2_digest_84 : decode cX2_digest 84 = .ok (.lload_n 1, 1) := by decide +kernel
theorem dX2_digest_85 : decode cX2_digest 85 = .ok (.ldc2_w 184, 3) := by decide +kernel
theorem dX2_digest_88 : decode cX2_digest 88 = .ok (.lmul, 1) := by decide +kernel
theorem dX2_digest_89 : decode cX2_digest 89 = .ok (.aload_n 0, 1) := by decide +kernel
theorem dX2_digest_90 : decode cX2_digest 90 = .ok (.iload_n 3, 1) := by decide +kernel
theorem dX2_digest_91 : decode cX2_digest 91 = .ok (.invokevirtual 162, 3) := by decide +kernel
theorem dX2_digest_94 : decode cX2_digest 94 = .ok (.i2l, 1) := by decide +kernel
theorem dX2_digest_95 : decode cX2_digest 95 = .ok (.ladd, 1) := by decide +kernel
theorem dX2_digest_96 : decode cX2_digest 96 = .ok (.lstore_n 1, 1) := by decide +kernel
theorem dX2_digest_97 : decode cX2_digest 97 = .ok (.iinc 3 1, 3) := by decide +kernel
theorem dX2_digest_100 : decode cX2_digest 100 = .ok (.goto (-24), 3) := by decide +kernel
theorem dX2_digest_103 : decode cX2_digest 103 = .ok (.lload_n 1, 1) := by decide +kernel
theorem dX2_digest_104 : decode cX2_digest 104 = .ok (.lreturn, 1) := by decide +kernel
theorem dX2_isOutside_0 : decode cX2_isOutside 0 = .ok (.iload_n 0, 1) := by decide +kernel
theorem dX2_isOutside_1 : decode cX2_isOutside 1 = .ok (.iload_n 1, 1) := by decide +kernel
theorem dX2_isOutside_2 : decode cX2_isOutside 2 = .ok (.if_icmp .lt 8, 3) := by decide +kernel
theorem dX2_isOutside_5 : decode cX2_isOutside 5 = .ok (.iload_n 0, 1) := by decide +kernel
theorem dX2_isOutside_6 : decode cX2_isOutside 6 = .ok (.iload_n 2, 1) := by decide +kernel
theorem dX2_isOutside_7 : decode cX2_isOutside 7 = .ok (.if_icmp .le 7, 3) := by decide +kernel
theorem dX2_isOutside_10 : decode cX2_isOutside 10 = .ok (.iconst 1, 1) := by decide +kernel
theorem dX2_isOutside_11 : decode cX2_isOutside 11 = .ok (.goto 4, 3) := by decide +kernel
theorem dX2_isOutside_14 : decode cX2_isOutside 14 = .ok (.iconst 0, 1) := by decide +kernel
theorem dX2_isOutside_15 : decode cX2_isOutside 15 = .ok (.ireturn, 1) := by decide +kernel
theorem dX2_requireStart_0 : decode cX2_requireStart 0 = .ok (.aload_n 0, 1) := by decide +kernel
theorem dX2_requireStart_1 : decode cX2_requireStart 1 = .ok (.getfield 36, 3) := by decide +kernel
theorem dX2_requireStart_4 : decode cX2_requireStart 4 = .ok (.ifCond .eq 13, 3) := by decide +kernel
theorem dX2_requireStart_7 : decode cX2_requireStart 7 = .ok (.new 61, 3) := by decide +kernel
theorem dX2_requireStart_10 : decode cX2_requireStart 10 = .ok (.dup, 1) := by decide +kernel
theorem dX2_requireStart_11 : decode cX2_requireStart 11 = .ok (.ldc 190, 2) := by decide +kernel
theorem dX2_requireStart_13 : decode cX2_requireStart 13 = .ok (.invokespecial 65, 3) := by decide +kernel
theorem dX2_requireStart_16 : decode cX2_requireStart 16 = .ok (.athrow, 1) := by decide +kernel
theorem dX2_requireStart_17 : decode cX2_requireStart 17 = .ok (.return_, 1) := by decide +kernel
theorem dX2_teamNumbered_0 : decode cX2_teamNumbered 0 = .ok (.iload_n 1, 1) := by decide +kernel
theorem dX2_teamNumbered_1 : decode cX2_teamNumbered 1 = .ok (.ifCond .lt 12, 3) := by decide +kernel
theorem dX2_teamNumbered_4 : decode cX2_teamNumbered 4 = .ok (.iload_n 1, 1) := by decide +kernel
theorem dX2_teamNumbered_5 : decode cX2_teamNumbered 5 = .ok (.aload_n 0, 1) := by decide +kernel
theorem dX2_teamNumbered_6 : decode cX2_teamNumbered 6 = .ok (.getfield 18, 3) := by decide +kernel
theorem dX2_teamNumbered_9 : decode cX2_teamNumbered 9 = .ok (.arraylength, 1) := by decide +kernel
theorem dX2_teamNumbered_10 : decode cX2_teamNumbered 10 = .ok (.if_icmp .lt 13, 3) := by decide +kernel
theorem dX2_teamNumbered_13 : decode cX2_teamNumbered 13 = .ok (.new 122, 3) := by decide +kernel
theorem dX2_teamNumbered_16 : decode cX2_teamNumbered 16 = .ok (.dup, 1) := by decide +kernel
theorem dX2_teamNumbered_17 : decode cX2_teamNumbered 17 = .ok (.ldc 192, 2) := by decide +kernel
theorem dX2_teamNumbered_19 : decode cX2_teamNumbered 19 = .ok (.invokespecial 126, 3) := by decide +kernel
theorem dX2_teamNumbered_22 : decode cX2_teamNumbered 22 = .ok (.athrow, 1) := by decide +kernel
theorem dX2_teamNumbered_23 : decode cX2_teamNumbered 23 = .ok (.aload_n 0, 1) := by decide +kernel
theorem dX2_teamNumbered_24 : decode cX2_teamNumbered 24 = .ok (.getfield 18, 3) := by decide +kernel
theorem dX2_teamNumbered_27 : decode cX2_teamNumbered 27 = .ok (.iload_n 1, 1) := by decide +kernel
theorem dX2_teamNumbered_28 : decode cX2_teamNumbered 28 = .ok (.aaload, 1) := by decide +kernel
theorem dX2_teamNumbered_29 : decode cX2_teamNumbered 29 = .ok (.astore_n 2, 1) := by decide +kernel
theorem dX2_teamNumbered_30 : decode cX2_teamNumbered 30 = .ok (.aload_n 2, 1) := by decide +kernel
theorem dX2_teamNumbered_31 : decode cX2_teamNumbered 31 = .ok (.ifnonnull 13, 3) := by decide +kernel
theorem dX2_teamNumbered_34 : decode cX2_teamNumbered 34 = .ok (.new 122, 3) := by decide +kernel
theorem dX2_teamNumbered_37 : decode cX2_teamNumbered 37 = .ok (.dup, 1) := by decide +kernel
theorem dX2_teamNumbered_38 : decode cX2_teamNumbered 38 = .ok (.ldc 192, 2) := by decide +kernel
theorem dX2_teamNumbered_40 : decode cX2_teamNumbered 40 = .ok (.invokespecial 126, 3) := by decide +kernel
theorem dX2_teamNumbered_43 : decode cX2_teamNumbered 43 = .ok (.athrow, 1) := by decide +kernel
theorem dX2_teamNumbered_44 : decode cX2_teamNumbered 44 = .ok (.aload_n 2, 1) := by decide +kernel
theorem dX2_teamNumbered_45 : decode cX2_teamNumbered 45 = .ok (.areturn, 1) := by decide +kernel
theorem dX2_passTick_0 : decode cX2_passTick 0 = .ok (.aload_n 0, 1) := by decide +kernel
theorem dX2_passTick_1 : decode cX2_passTick 1 = .ok (.dup, 1) := by decide +kernel
theorem dX2_passTick_2 : decode cX2_passTick 2 = .ok (.getfield 36, 3) := by decide +kernel
theorem dX2_passTick_5 : decode cX2_passTick 5 = .ok (.iconst 1, 1) := by decide +kernel
theorem dX2_passTick_6 : decode cX2_passTick 6 = .ok (.iadd, 1) := by decide +kernel
theorem dX2_passTick_7 : decode cX2_passTick 7 = .ok (.putfield 36, 3) := by decide +kernel
theorem dX2_passTick_10 : decode cX2_passTick 10 = .ok (.aload_n 0, 1) := by decide +kernel
theorem dX2_passTick_11 : decode cX2_passTick 11 = .ok (.getfield 18, 3) := by decide +kernel
theorem dX2_passTick_14 : decode cX2_passTick 14 = .ok (.astore_n 1, 1) := by decide +kernel
theorem dX2_passTick_15 : decode cX2_passTick 15 = .ok (.aload_n 1, 1) := by decide +kernel
theorem dX2_passTick_16 : decode cX2_passTick 16 = .ok (.arraylength, 1) := by decide +kernel
theorem dX2_passTick_17 : decode cX2_passTick 17 = .ok (.istore_n 2, 1) := by decide +kernel
theorem dX2_passTick_18 : decode cX2_passTick 18 = .ok (.iconst 0, 1) := by decide +kernel
theorem dX2_passTick_19 : decode cX2_passTick 19 = .ok (.istore_n 3, 1) := by decide +kernel
theorem dX2_passTick_20 : decode cX2_passTick 20 = .ok (.iload_n 3, 1) := by decide +kernel
theorem dX2_passTick_21 : decode cX2_passTick 21 = .ok (.iload_n 2, 1) := by decide +kernel
theorem dX2_passTick_22 : decode cX2_passTick 22 = .ok (.if_icmp .ge 32, 3) := by decide +kernel
theorem dX2_passTick_25 : decode cX2_passTick 25 = .ok (.aload_n 1, 1) := by decide +kernel
theorem dX2_passTick_26 : decode cX2_passTick 26 = .ok (.iload_n 3, 1) := by decide +kernel
theorem dX2_passTick_27 : decode cX2_passTick 27 = .ok (.aaload, 1) := by decide +kernel
theorem dX2_passTick_28 : decode cX2_passTick 28 = .ok (.astore 4, 2) := by decide +kernel
theorem dX2_passTick_30 : decode cX2_passTick 30 = .ok (.aload 4, 2) := by decide +kernel
theorem dX2_passTick_32 : decode cX2_passTick 32 = .ok (.ifnull 16, 3) := by decide +kernel
theorem dX2_passTick_35 : decode cX2_passTick 35 = .ok (.aload 4, 2) := by decide +kernel
theorem dX2_passTick_37 : decode cX2_passTick 37 = .ok (.aload_n 0, 1) := by decide +kernel
theorem dX2_passTick_38 : decode cX2_passTick 38 = .ok (.getfield 36, 3) := by decide +kernel
theorem dX2_passTick_41 : decode cX2_passTick 41 = .ok (.aload_n 0, 1) := by decide +kernel
theorem dX2_passTick_42 : decode cX2_passTick 42 = .ok (.getfield 10, 3) := by decide +kernel
theorem dX2_passTick_45 : decode cX2_passTick 45 = .ok (.invokevirtual 194, 3) := by decide +kernel
theorem dX2_passTick_48 : decode cX2_passTick 48 = .ok (.iinc 3 1, 3) := by decide +kernel
theorem dX2_passTick_51 : decode cX2_passTick 51 = .ok (.goto (-31), 3) := by decide +kernel
theorem dX2_passTick_54 : decode cX2_passTick 54 = .ok (.return_, 1) := by decide +kernel
theorem dX2_lookAhead_0 : decode cX2_lookAhead 0 = .ok (.aload_n 1, 1) := by decide +kernel
theorem dX2_lookAhead_1 : decode cX2_lookAhead 1 = .ok (.aload_n 2, 1) := by decide +kernel
theorem dX2_lookAhead_2 : decode cX2_lookAhead 2 = .ok (.invokevirtual 197, 3) := by decide +kernel
theorem dX2_lookAhead_5 : decode cX2_lookAhead 5 = .ok (.aload_n 1, 1) := by decide +kernel
theorem dX2_lookAhead_6 : decode cX2_lookAhead 6 = .ok (.iload_n 3, 1) := by decide +kernel
theorem dX2_lookAhead_7 : decode cX2_lookAhead 7 = .ok (.putfield 102, 3) := by decide +kernel
theorem dX2_lookAhead_10 : decode cX2_lookAhead 10 = .ok (.iconst 1, 1) := by decide +kernel
theorem dX2_lookAhead_11 : decode cX2_lookAhead 11 = .ok (.istore 5, 2) := by decide +kernel
theorem dX2_lookAhead_13 : decode cX2_lookAhead 13 = .ok (.iload 5, 2) := by decide +kernel
theorem dX2_lookAhead_15 : decode cX2_lookAhead 15 = .ok (.iload 4, 2) := by decide +kernel
theorem dX2_lookAhead_17 : decode cX2_lookAhead 17 = .ok (.if_icmp .gt 24, 3) := by decide +kernel
theorem dX2_lookAhead_20 : decode cX2_lookAhead 20 = .ok (.aload_n 1, 1) := by decide +kernel
theorem dX2_lookAhead_21 : decode cX2_lookAhead 21 = .ok (.aload_n 0, 1) := by decide +kernel
theorem dX2_lookAhead_22 : decode cX2_lookAhead 22 = .ok (.getfield 36, 3) := by decide +kernel
theorem dX2_lookAhead_25 : decode cX2_lookAhead 25 = .ok (.iload 5, 2) := by decide +kernel
theorem dX2_lookAhead_27 : decode cX2_lookAhead 27 = .ok (.iadd, 1) := by decide +kernel
theorem dX2_lookAhead_28 : decode cX2_lookAhead 28 = .ok (.aload_n 0, 1) := by decide +kernel
theorem dX2_lookAhead_29 : decode cX2_lookAhead 29 = .ok (.getfield 10, 3) := by decide +kernel
theorem dX2_lookAhead_32 : decode cX2_lookAhead 32 = .ok (.invokevirtual 194, 3) := by decide +kernel
theorem dX2_lookAhead_35 : decode cX2_lookAhead 35 = .ok (.iinc 5 1, 3) := by decide +kernel
theorem dX2_lookAhead_38 : decode cX2_lookAhead 38 = .ok (.goto (-25), 3) := by decide +kernel
theorem dX2_lookAhead_41 : decode cX2_lookAhead 41 = .ok (.return_, 1) := by decide +kernel
theorem dX2_rankOfTrialAmongRivals_0 : decode cX2_rankOfTrialAmongRivals 0 = .ok (.iconst 0, 1) := by decide +kernel
theorem dX2_rankOfTrialAmongRivals_1 : decode cX2_rankOfTrialAmongRivals 1 = .ok (.istore_n 2, 1) := by decide +kernel
theorem dX2_rankOfTrialAmongRivals_2 : decode cX2_rankOfTrialAmongRivals 2 = .ok (.aload_n 0, 1) := by decide +kernel
theorem dX2_rankOfTrialAmongRivals_3 : decode cX2_rankOfTrialAmongRivals 3 = .ok (.getfield 18, 3) := by decide +kernel
theorem dX2_rankOfTrialAmongRivals_6 : decode cX2_rankOfTrialAmongRivals 6 = .ok (.astore_n 3, 1) := by decide +kernel
theorem dX2_rankOfTrialAmongRivals_7 : decode cX2_rankOfTrialAmongRivals 7 = .ok (.aload_n 3, 1) := by decide +kernel
theorem dX2_rankOfTrialAmongRivals_8 : decode cX2_rankOfTrialAmongRivals 8 = .ok (.arraylength, 1) := by decide +kernel
theorem dX2_rankOfTrialAmongRivals_9 : decode cX2_rankOfTrialAmongRivals 9 = .ok (.istore 4, 2) := by decide +kernel
theorem dX2_rankOfTrialAmongRivals_11 : decode cX2_rankOfTrialAmongRivals 11 = .ok (.iconst 0, 1) := by decide +kernel
theorem dX2_rankOfTrialAmongRivals_12 : decode cX2_rankOfTrialAmongRivals 12 = .ok (.istore 5, 2) := by decide +kernel
theorem dX2_rankOfTrialAmongRivals_14 : decode cX2_rankOfTrialAmongRivals 14 = .ok (.iload 5, 2) := by decide +kernel
theorem dX2_rankOfTrialAmongRivals_16 : decode cX2_rankOfTrialAmongRivals 16 = .ok (.iload 4, 2) := by decide +kernel
theorem dX2_rankOfTrialAmongRivals_18 : decode cX2_rankOfTrialAmongRivals 18 = .ok (.if_icmp .ge 58, 3) := by decide +kernel
theorem dX2_rankOfTrialAmongRivals_21 : decode cX2_rankOfTrialAmongRivals 21 = .ok (.aload_n 3, 1) := by decide +kernel
theorem dX2_rankOfTrialAmongRivals_22 : decode cX2_rankOfTrialAmongRivals 22 = .ok (.iload 5, 2) := by decide +kernel
theorem dX2_rankOfTrialAmongRivals_24 : decode cX2_rankOfTrialAmongRivals 24 = .ok (.aaload, 1) := by decide +kernel
theorem dX2_rankOfTrialAmongRivals_25 : decode cX2_rankOfTrialAmongRivals 25 = .ok (.astore 6, 2) := by decide +kernel
theorem dX2_rankOfTrialAmongRivals_27 : decode cX2_rankOfTrialAmongRivals 27 = .ok (.aload 6, 2) := by decide +kernel
theorem dX2_rankOfTrialAmongRivals_29 : decode cX2_rankOfTrialAmongRivals 29 = .ok (.ifnull 41, 3) := by decide +kernel
theorem dX2_rankOfTrialAmongRivals_32 : decode cX2_rankOfTrialAmongRivals 32 = .ok (.aload_n 0, 1) := by decide +kernel
theorem dX2_rankOfTrialAmongRivals_33 : decode cX2_rankOfTrialAmongRivals 33 = .ok (.aload_n 0, 1) := by decide +kernel
theorem dX2_rankOfTrialAmongRivals_34 : decode cX2_rankOfTrialAmongRivals 34 = .ok (.getfield 29, 3) := by decide +kernel
theorem dX2_rankOfTrialAmongRivals_37 : decode cX2_rankOfTrialAmongRivals 37 = .ok (.aload 6, 2) := by decide +kernel
theorem dX2_rankOfTrialAmongRivals_39 : decode cX2_rankOfTrialAmongRivals 39 = .ok (.aload 6, 2) := by decide +kernel
theorem dX2_rankOfTrialAmongRivals_41 : decode cX2_rankOfTrialAmongRivals 41 = .ok (.getfield 102, 3) := by decide +kernel
theorem dX2_rankOfTrialAmongRivals_44 : decode cX2_rankOfTrialAmongRivals 44 = .ok (.iload_n 1, 1) := by decide +kernel
theorem dX2_rankOfTrialAmongRivals_45 : decode cX2_rankOfTrialAmongRivals 45 = .ok (.invokevirtual 167, 3) := by decide +kernel
theorem dX2_rankOfTrialAmongRivals_48 : decode cX2_rankOfTrialAmongRivals 48 = .ok (.iload_n 2, 1) := by decide +kernel
theorem dX2_rankOfTrialAmongRivals_49 : decode cX2_rankOfTrialAmongRivals 49 = .ok (.aload_n 0, 1) := by decide +kernel
theorem dX2_rankOfTrialAmongRivals_50 : decode cX2_rankOfTrialAmongRivals 50 = .ok (.getfield 29, 3) := by decide +kernel
theorem dX2_rankOfTrialAmongRivals_53 : decode cX2_rankOfTrialAmongRivals 53 = .ok (.aload_n 0, 1) := by decide +kernel
theorem dX2_rankOfTrialAmongRivals_54 : decode cX2_rankOfTrialAmongRivals 54 = .ok (.getfield 25, 3) := by decide +kernel
theorem dX2_rankOfTrialAmongRivals_57 : decode cX2_rankOfTrialAmongRivals 57 = .ok (.invokevirtual 201, 3) := by decide +kernel
theorem dX2_rankOfTrialAmongRivals_60 : decode cX2_rankOfTrialAmongRivals 60 = .ok (.ifCond .eq 7, 3) := by decide +kernel
theorem dX2_rankOfTrialAmongRivals_63 : decode cX2_rankOfTrialAmongRivals 63 = .ok (.iconst 1, 1) := by decide +kernel
theorem dX2_rankOfTrialAmongRivals_64 : decode cX2_rankOfTrialAmongRivals 64 = .ok (.goto 4, 3) := by decide +kernel
theorem dX2_rankOfTrialAmongRivals_67 : decode cX2_rankOfTrialAmongRivals 67 = .ok (.iconst 0, 1) := by decide +kernel
theorem dX2_rankOfTrialAmongRivals_68 : decode cX2_rankOfTrialAmongRivals 68 = .ok (.iadd, 1) := by decide +kernel
theorem dX2_rankOfTrialAmongRivals_69 : decode cX2_rankOfTrialAmongRivals 69 = .ok (.istore_n 2, 1) := by decide +kernel
theorem dX2_rankOfTrialAmongRivals_70 : decode cX2_rankOfTrialAmongRivals 70 = .ok (.iinc 5 1, 3) := by decide +kernel
theorem dX2_rankOfTrialAmongRivals_73 : decode cX2_rankOfTrialAmongRivals 73 = .ok (.goto (-59), 3) := by decide +kernel
theorem dX2_rankOfTrialAmongRivals_76 : decode cX2_rankOfTrialAmongRivals 76 = .ok (.iload_n 2, 1) := by decide +kernel
theorem dX2_rankOfTrialAmongRivals_77 : decode cX2_rankOfTrialAmongRivals 77 = .ok (.ireturn, 1) := by decide +kernel
theorem dX2_rankOf_0 : decode cX2_rankOf 0 = .ok (.iconst 0, 1) := by decide +kernel
theorem dX2_rankOf_1 : decode cX2_rankOf 1 = .ok (.istore_n 2, 1) := by decide +kernel
theorem dX2_rankOf_2 : decode cX2_rankOf 2 = .ok (.aload_n 0, 1) := by decide +kernel
theorem dX2_rankOf_3 : decode cX2_rankOf 3 = .ok (.getfield 18, 3) := by decide +kernel
theorem dX2_rankOf_6 : decode cX2_rankOf 6 = .ok (.astore_n 3, 1) := by decide +kernel
theorem dX2_rankOf_7 : decode cX2_rankOf 7 = .ok (.aload_n 3, 1) := by decide +kernel
theorem dX2_rankOf_8 : decode cX2_rankOf 8 = .ok (.arraylength, 1) := by decide +kernel
theorem dX2_rankOf_9 : decode cX2_rankOf 9 = .ok (.istore 4, 2) := by decide +kernel
theorem dX2_rankOf_11 : decode cX2_rankOf 11 = .ok (.iconst 0, 1) := by decide +kernel
theorem dX2_rankOf_12 : decode cX2_rankOf 12 = .ok (.istore 5, 2) := by decide +kernel
theorem dX2_rankOf_14 : decode cX2_rankOf 14 = .ok (.iload 5, 2) := by decide +kernel
theorem dX2_rankOf_16 : decode cX2_rankOf 16 = .ok (.iload 4, 2) := by decide +kernel
theorem dX2_rankOf_18 : decode cX2_rankOf 18 = .ok (.if_icmp .ge 32, 3) := by decide +kernel
theorem dX2_rankOf_21 : decode cX2_rankOf 21 = .ok (.aload_n 3, 1) := by decide +kernel
theorem dX2_rankOf_22 : decode cX2_rankOf 22 = .ok (.iload 5, 2) := by decide +kernel
theorem dX2_rankOf_24 : decode cX2_rankOf 24 = .ok (.aaload, 1) := by decide +kernel
theorem dX2_rankOf_25 : decode cX2_rankOf 25 = .ok (.astore 6, 2) := by decide +kernel
theorem dX2_rankOf_27 : decode cX2_rankOf 27 = .ok (.aload 6, 2) := by decide +kernel
theorem dX2_rankOf_29 : decode cX2_rankOf 29 = .ok (.ifnull 15, 3) := by decide +kernel
theorem dX2_rankOf_32 : decode cX2_rankOf 32 = .ok (.aload 6, 2) := by decide +kernel
theorem dX2_rankOf_34 : decode cX2_rankOf 34 = .ok (.aload_n 1, 1) := by decide +kernel
theorem dX2_rankOf_35 : decode cX2_rankOf 35 = .ok (.invokevirtual 201, 3) := by decide +kernel
theorem dX2_rankOf_38 : decode cX2_rankOf 38 = .ok (.ifCond .eq 6, 3) := by decide +kernel
theorem dX2_rankOf_41 : decode cX2_rankOf 41 = .ok (.iinc 2 1, 3) := by decide +kernel
theorem dX2_rankOf_44 : decode cX2_rankOf 44 = .ok (.iinc 5 1, 3) := by decide +kernel
theorem dX2_rankOf_47 : decode cX2_rankOf 47 = .ok (.goto (-33), 3) := by decide +kernel
theorem dX2_rankOf_50 : decode cX2_rankOf 50 = .ok (.iload_n 2, 1) := by decide +kernel
theorem dX2_rankOf_51 : decode cX2_rankOf 51 = .ok (.ireturn, 1) := by decide +kernel
theorem dX2_teamAtRank_0 : decode cX2_teamAtRank 0 = .ok (.aload_n 0, 1) := by decide +kernel
theorem dX2_teamAtRank_1 : decode cX2_teamAtRank 1 = .ok (.getfield 18, 3) := by decide +kernel
theorem dX2_teamAtRank_4 : decode cX2_teamAtRank 4 = .ok (.astore_n 2, 1) := by decide +kernel
theorem dX2_teamAtRank_5 : decode cX2_teamAtRank 5 = .ok (.aload_n 2, 1) := by decide +kernel
theorem dX2_teamAtRank_6 : decode cX2_teamAtRank 6 = .ok (.arraylength, 1) := by decide +kernel
theorem dX2_teamAtRank_7 : decode cX2_teamAtRank 7 = .ok (.istore_n 3, 1) := by decide +kernel
theorem dX2_teamAtRank_8 : decode cX2_teamAtRank 8 = .ok (.iconst 0, 1) := by decide +kernel
theorem dX2_teamAtRank_9 : decode cX2_teamAtRank 9 = .ok (.istore 4, 2) := by decide +kernel
theorem dX2_teamAtRank_11 : decode cX2_teamAtRank 11 = .ok (.iload 4, 2) := by decide +kernel
theorem dX2_teamAtRank_13 : decode cX2_teamAtRank 13 = .ok (.iload_n 3, 1) := by decide +kernel
theorem dX2_teamAtRank_14 : decode cX2_teamAtRank 14 = .ok (.if_icmp .ge 36, 3) := by decide +kernel
theorem dX2_teamAtRank_17 : decode cX2_teamAtRank 17 = .ok (.aload_n 2, 1) := by decide +kernel
theorem dX2_teamAtRank_18 : decode cX2_teamAtRank 18 = .ok (.iload 4, 2) := by decide +kernel
theorem dX2_teamAtRank_20 : decode cX2_teamAtRank 20 = .ok (.aaload, 1) := by decide +kernel
theorem dX2_teamAtRank_21 : decode cX2_teamAtRank 21 = .ok (.astore 5, 2) := by decide +kernel
theorem dX2_teamAtRank_23 : decode cX2_teamAtRank 23 = .ok (.aload 5, 2) := by decide +kernel
theorem dX2_teamAtRank_25 : decode cX2_teamAtRank 25 = .ok (.ifnull 19, 3) := by decide +kernel
theorem dX2_teamAtRank_28 : decode cX2_teamAtRank 28 = .ok (.aload_n 0, 1) := by decide +kernel
theorem dX2_teamAtRank_29 : decode cX2_teamAtRank 29 = .ok (.aload 5, 2) := by decide +kernel
theorem dX2_teamAtRank_31 : decode cX2_teamAtRank 31 = .ok (.invokevirtual 205, 3) := by decide +kernel
theorem dX2_teamAtRank_34 : decode cX2_teamAtRank 34 = .ok (.iload_n 1, 1) := by decide +kernel
theorem dX2_teamAtRank_35 : decode cX2_teamAtRank 35 = .ok (.if_icmp .ne 9, 3) := by decide +kernel
theorem dX2_teamAtRank_38 : decode cX2_teamAtRank 38 = .ok (.aload 5, 2) := by decide +kernel
theorem dX2_teamAtRank_40 : decode cX2_teamAtRank 40 = .ok (.getfield 209, 3) := by decide +kernel
theorem dX2_teamAtRank_43 : decode cX2_teamAtRank 43 = .ok (.ireturn, 1) := by decide +kernel
theorem dX2_teamAtRank_44 : decode cX2_teamAtRank 44 = .ok (.iinc 4 1, 3) := by decide +kernel
theorem dX2_teamAtRank_47 : decode cX2_teamAtRank 47 = .ok (.goto (-36), 3) := by decide +kernel
theorem dX2_teamAtRank_50 : decode cX2_teamAtRank 50 = .ok (.iconst (-1), 1) := by decide +kernel
theorem dX2_teamAtRank_51 : decode cX2_teamAtRank 51 = .ok (.ireturn, 1) := by decide +kernel
theorem dX2_countOf_0 : decode cX2_countOf 0 = .ok (.iload_n 1, 1) := by decide +kernel
theorem dX2_countOf_1 : decode cX2_countOf 1 = .ok (.tableswitch 66 0 4 #[35, 40, 45, 53, 61], 35) := by decide +kernel
theorem dX2_countOf_36 : decode cX2_countOf 36 = .ok (.aload_n 0, 1) := by decide +kernel
theorem dX2_countOf_37 : decode cX2_countOf 37 = .ok (.getfield 36, 3) := by decide +kernel
theorem dX2_countOf_40 : decode cX2_countOf 40 = .ok (.ireturn, 1) := by decide +kernel
theorem dX2_countOf_41 : decode cX2_countOf 41 = .ok (.aload_n 0, 1) := by decide +kernel
theorem dX2_countOf_42 : decode cX2_countOf 42 = .ok (.getfield 32, 3) := by decide +kernel
theorem dX2_countOf_45 : decode cX2_countOf 45 = .ok (.ireturn, 1) := by decide +kernel
theorem dX2_countOf_46 : decode cX2_countOf 46 = .ok (.aload_n 0, 1) := by decide +kernel
theorem dX2_countOf_47 : decode cX2_countOf 47 = .ok (.getfield 10, 3) := by decide +kernel
theorem dX2_countOf_50 : decode cX2_countOf 50 = .ok (.getfield 53, 3) := by decide +kernel
theorem dX2_countOf_53 : decode cX2_countOf 53 = .ok (.ireturn, 1) := by decide +kernel
theorem dX2_countOf_54 : decode cX2_countOf 54 = .ok (.aload_n 0, 1) := by decide +kernel
theorem dX2_countOf_55 : decode cX2_countOf 55 = .ok (.getfield 10, 3) := by decide +kernel
theorem dX2_countOf_58 : decode cX2_countOf 58 = .ok (.getfield 66, 3) := by decide +kernel
theorem dX2_countOf_61 : decode cX2_countOf 61 = .ok (.ireturn, 1) := by decide +kernel
theorem dX2_countOf_62 : decode cX2_countOf 62 = .ok (.aload_n 0, 1) := by decide +kernel
theorem dX2_countOf_63 : decode cX2_countOf 63 = .ok (.invokevirtual 115, 3) := by decide +kernel
theorem dX2_countOf_66 : decode cX2_countOf 66 = .ok (.ireturn, 1) := by decide +kernel
theorem dX2_countOf_67 : decode cX2_countOf 67 = .ok (.aload_n 0, 1) := by decide +kernel
theorem dX2_countOf_68 : decode cX2_countOf 68 = .ok (.invokevirtual 212, 3) := by decide +kernel
theorem dX2_countOf_71 : decode cX2_countOf 71 = .ok (.ireturn, 1) := by decide +kernel
theorem dX2_teamsAtEnd_0 : decode cX2_teamsAtEnd 0 = .ok (.iconst 0, 1) := by decide +kernel
theorem dX2_teamsAtEnd_1 : decode cX2_teamsAtEnd 1 = .ok (.istore_n 1, 1) := by decide +kernel
theorem dX2_teamsAtEnd_2 : decode cX2_teamsAtEnd 2 = .ok (.aload_n 0, 1) := by decide +kernel
theorem dX2_teamsAtEnd_3 : decode cX2_teamsAtEnd 3 = .ok (.getfield 18, 3) := by decide +kernel
theorem dX2_teamsAtEnd_6 : decode cX2_teamsAtEnd 6 = .ok (.astore_n 2, 1) := by decide +kernel
theorem dX2_teamsAtEnd_7 : decode cX2_teamsAtEnd 7 = .ok (.aload_n 2, 1) := by decide +kernel
theorem dX2_teamsAtEnd_8 : decode cX2_teamsAtEnd 8 = .ok (.arraylength, 1) := by decide +kernel
theorem dX2_teamsAtEnd_9 : decode cX2_teamsAtEnd 9 = .ok (.istore_n 3, 1) := by decide +kernel
theorem dX2_teamsAtEnd_10 : decode cX2_teamsAtEnd 10 = .ok (.iconst 0, 1) := by decide +kernel
theorem dX2_teamsAtEnd_11 : decode cX2_teamsAtEnd 11 = .ok (.istore 4, 2) := by decide +kernel
theorem dX2_teamsAtEnd_13 : decode cX2_teamsAtEnd 13 = .ok (.iload 4, 2) := by decide +kernel
theorem dX2_teamsAtEnd_15 : decode cX2_teamsAtEnd 15 = .ok (.iload_n 3, 1) := by decide +kernel
theorem dX2_teamsAtEnd_16 : decode cX2_teamsAtEnd 16 = .ok (.if_icmp .ge 31, 3) := by decide +kernel
theorem dX2_teamsAtEnd_19 : decode cX2_teamsAtEnd 19 = .ok (.aload_n 2, 1) := by decide +kernel
theorem dX2_teamsAtEnd_20 : decode cX2_teamsAtEnd 20 = .ok (.iload 4, 2) := by decide +kernel
theorem dX2_teamsAtEnd_22 : decode cX2_teamsAtEnd 22 = .ok (.aaload, 1) := by decide +kernel
theorem dX2_teamsAtEnd_23 : decode cX2_teamsAtEnd 23 = .ok (.astore 5, 2) := by decide +kernel
theorem dX2_teamsAtEnd_25 : decode cX2_teamsAtEnd 25 = .ok (.aload 5, 2) := by decide +kernel
theorem dX2_teamsAtEnd_27 : decode cX2_teamsAtEnd 27 = .ok (.ifnull 14, 3) := by decide +kernel
theorem dX2_teamsAtEnd_30 : decode cX2_teamsAtEnd 30 = .ok (.aload 5, 2) := by decide +kernel
theorem dX2_teamsAtEnd_32 : decode cX2_teamsAtEnd 32 = .ok (.invokevirtual 215, 3) := by decide +kernel
theorem dX2_teamsAtEnd_35 : decode cX2_teamsAtEnd 35 = .ok (.ifCond .eq 6, 3) := by decide +kernel
theorem dX2_teamsAtEnd_38 : decode cX2_teamsAtEnd 38 = .ok (.iinc 1 1, 3) := by decide +kernel
theorem dX2_teamsAtEnd_41 : decode cX2_teamsAtEnd 41 = .ok (.iinc 4 1, 3) := by decide +kernel
theorem dX2_teamsAtEnd_44 : decode cX2_teamsAtEnd 44 = .ok (.goto (-31), 3) := by decide +kernel
theorem dX2_teamsAtEnd_47 : decode cX2_teamsAtEnd 47 = .ok (.iload_n 1, 1) := by decide +kernel
theorem dX2_teamsAtEnd_48 : decode cX2_teamsAtEnd 48 = .ok (.ireturn, 1) := by decide +kernel
theorem dX2_ropesBroken_0 : decode cX2_ropesBroken 0 = .ok (.iconst 0, 1) := by decide +kernel
theorem dX2_ropesBroken_1 : decode cX2_ropesBroken 1 = .ok (.istore_n 1, 1) := by decide +kernel
theorem dX2_ropesBroken_2 : decode cX2_ropesBroken 2 = .ok (.aload_n 0, 1) := by decide +kernel
theorem dX2_ropesBroken_3 : decode cX2_ropesBroken 3 = .ok (.getfield 18, 3) := by decide +kernel
theorem dX2_ropesBroken_6 : decode cX2_ropesBroken 6 = .ok (.astore_n 2, 1) := by decide +kernel
theorem dX2_ropesBroken_7 : decode cX2_ropesBroken 7 = .ok (.aload_n 2, 1) := by decide +kernel
theorem dX2_ropesBroken_8 : decode cX2_ropesBroken 8 = .ok (.arraylength, 1) := by decide +kernel
theorem dX2_ropesBroken_9 : decode cX2_ropesBroken 9 = .ok (.istore_n 3, 1) := by decide +kernel
theorem dX2_ropesBroken_10 : decode cX2_ropesBroken 10 = .ok (.iconst 0, 1) := by decide +kernel
theorem dX2_ropesBroken_11 : decode cX2_ropesBroken 11 = .ok (.istore 4, 2) := by decide +kernel
theorem dX2_ropesBroken_13 : decode cX2_ropesBroken 13 = .ok (.iload 4, 2) := by decide +kernel
theorem dX2_ropesBroken_15 : decode cX2_ropesBroken 15 = .ok (.iload_n 3, 1) := by decide +kernel
theorem dX2_ropesBroken_16 : decode cX2_ropesBroken 16 = .ok (.if_icmp .ge 28, 3) := by decide +kernel
theorem dX2_ropesBroken_19 : decode cX2_ropesBroken 19 = .ok (.aload_n 2, 1) := by decide +kernel
theorem dX2_ropesBroken_20 : decode cX2_ropesBroken 20 = .ok (.iload 4, 2) := by decide +kernel
theorem dX2_ropesBroken_22 : decode cX2_ropesBroken 22 = .ok (.aaload, 1) := by decide +kernel
theorem dX2_ropesBroken_23 : decode cX2_ropesBroken 23 = .ok (.astore 5, 2) := by decide +kernel
theorem dX2_ropesBroken_25 : decode cX2_ropesBroken 25 = .ok (.aload 5, 2) := by decide +kernel
theorem dX2_ropesBroken_27 : decode cX2_ropesBroken 27 = .ok (.ifnull 11, 3) := by decide +kernel
theorem dX2_ropesBroken_30 : decode cX2_ropesBroken 30 = .ok (.iload_n 1, 1) := by decide +kernel
theorem dX2_ropesBroken_31 : decode cX2_ropesBroken 31 = .ok (.aload 5, 2) := by decide +kernel
theorem dX2_ropesBroken_33 : decode cX2_ropesBroken 33 = .ok (.getfield 219, 3) := by decide +kernel
theorem dX2_ropesBroken_36 : decode cX2_ropesBroken 36 = .ok (.iadd, 1) := by decide +kernel
theorem dX2_ropesBroken_37 : decode cX2_ropesBroken 37 = .ok (.istore_n 1, 1) := by decide +kernel
theorem dX2_ropesBroken_38 : decode cX2_ropesBroken 38 = .ok (.iinc 4 1, 3) := by decide +kernel
theorem dX2_ropesBroken_41 : decode cX2_ropesBroken 41 = .ok (.goto (-28), 3) := by decide +kernel
theorem dX2_ropesBroken_44 : decode cX2_ropesBroken 44 = .ok (.iload_n 1, 1) := by decide +kernel
theorem dX2_ropesBroken_45 : decode cX2_ropesBroken 45 = .ok (.ireturn, 1) := by decide +kernel
end
section
set_option maxRecDepth 20000 in
theorem ggX2_init_X1_init : GoodIn wsX2_init wsX1_init := goodIn_r _ [18, 19, 2, 3, 20, 21, 22, 23, 24, 25, 54, 55, 56, 57, 58] (by decide +kernel) (by decide +kernel)
set_option maxRecDepth 20000 in
theorem gX2_init_X1_init : GoodIn wsX2_init (wsX1_init) := ggX2_init_X1_init
set_option maxRecDepth 20000 in
theorem ggX2_init_X0_init : GoodIn wsX2_init wsX0_init := goodIn_r _ [28, 29, 2, 3, 30, 31, 32, 33, 34, 35, 36, 37, 38, 39, 20, 40, 41, 42, 43, 44, 45, 11, 46, 47, 48, 49, 50, 51, 52, 53, 65, 66, 67, 68, 69, 70, 71, 72, 73, 74, 75, 76, 77, 78, 79, 80, 81, 82, 83, 84] (by decide +kernel) (by decide +kernel)
set_option maxRecDepth 20000 in
theorem gX2_init_X0_init : GoodIn wsX2_init (wsX0_init) := ggX2_init_X0_init
set_option maxRecDepth 20000 in
theorem ggX2_setLength_X2_isOutside : GoodIn wsX2_setLength wsX2_isOutside := goodIn_r _ [7] (by decide +kernel) (by decide +kernel)
set_option maxRecDepth 20000 in
theorem gX2_setLength_X2_isOutside : GoodIn wsX2_setLength (va_wsS RX2 39 yX2_isOutside wsX2_isOutside) := goodIn_app (goodIn_of _ (by decide +kernel)) ggX2_setLength_X2_isOutside
set_option maxRecDepth 20000 in
theorem ggX2_setLength_X2_requireStart : GoodIn wsX2_setLength wsX2_requireStart := goodIn_ca (goodIn_r _ [11, 12, 13, 14, 15, 16, 17, 18, 19, 20] (by decide +kernel) (by decide +kernel)) (goodIn_sub (fun _ h => List.mem_cons_of_mem _ (List.mem_append_right _ h)) (by decide +kernel))
set_option maxRecDepth 20000 in
theorem gX2_setLength_X2_requireStart : GoodIn wsX2_setLength (wsV RX2 50 RX2 yX2_requireStart wsX2_requireStart) := goodIn_app (goodIn_of _ (by decide +kernel)) ggX2_setLength_X2_requireStart
set_option maxRecDepth 20000 in
theorem ggX2_lay_X2_isOutside : GoodIn wsX2_lay wsX2_isOutside := goodIn_r _ [9] (by decide +kernel) (by decide +kernel)
set_option maxRecDepth 20000 in
theorem gX2_lay_X2_isOutside : GoodIn wsX2_lay (va_wsS RX2 39 yX2_isOutside wsX2_isOutside) := goodIn_app (goodIn_of _ (by decide +kernel)) ggX2_lay_X2_isOutside
set_option maxRecDepth 20000 in
theorem ggX2_lay_X1_putStretch : GoodIn wsX2_lay wsX1_putStretch := goodIn_r _ [14, 15, 16, 17, 18, 25, 26, 27, 28, 29] (by decide +kernel) (by decide +kernel)
set_option maxRecDepth 20000 in
theorem gX2_lay_X1_putStretch : GoodIn wsX2_lay (wsV RX2 58 RX1 yX1_putStretch wsX1_putStretch) := goodIn_app (goodIn_of _ (by decide +kernel)) ggX2_lay_X1_putStretch
set_option maxRecDepth 20000 in
theorem ggX2_ground_X2_isOutside : GoodIn wsX2_ground wsX2_isOutside := goodIn_r _ [7] (by decide +kernel) (by decide +kernel)
set_option maxRecDepth 20000 in
theorem gX2_ground_X2_isOutside : GoodIn wsX2_ground (va_wsS RX2 39 yX2_isOutside wsX2_isOutside) := goodIn_app (goodIn_of _ (by decide +kernel)) ggX2_ground_X2_isOutside
set_option maxRecDepth 20000 in
theorem ggX2_ground_X1_groundAt : GoodIn wsX2_ground wsX1_groundAt := goodIn_r _ [12, 13, 14, 15, 16, 17, 18, 19, 20, 27, 28, 29, 30, 31] (by decide +kernel) (by decide +kernel)
set_option maxRecDepth 20000 in
theorem gX2_ground_X1_groundAt : GoodIn wsX2_ground (wsV RX2 71 RX1 yX1_groundAt wsX1_groundAt) := goodIn_app (goodIn_of _ (by decide +kernel)) ggX2_ground_X1_groundAt
set_option maxRecDepth 20000 in
theorem ggX2_addTeam_X2_isOutside : GoodIn wsX2_addTeam wsX2_isOutside := goodIn_r _ [13] (by decide +kernel) (by decide +kernel)
set_option maxRecDepth 20000 in
theorem gX2_addTeam_X2_isOutside : GoodIn wsX2_addTeam (va_wsS RX2 39 yX2_isOutside wsX2_isOutside) := goodIn_app (goodIn_of _ (by decide +kernel)) ggX2_addTeam_X2_isOutside
set_option maxRecDepth 20000 in
theorem ggX2_addTeam_X2_requireStart : GoodIn wsX2_addTeam wsX2_requireStart := goodIn_ca (goodIn_r _ [17, 3, 4, 18, 50, 51, 52, 53, 54, 55] (by decide +kernel) (by decide +kernel)) (goodIn_sub (fun _ h => List.mem_cons_of_mem _ (List.mem_append_right _ h)) (by decide +kernel))
set_option maxRecDepth 20000 in
theorem gX2_addTeam_X2_requireStart : GoodIn wsX2_addTeam (wsV RX2 50 RX2 yX2_requireStart wsX2_requireStart) := goodIn_app (goodIn_of _ (by decide +kernel)) ggX2_addTeam_X2_requireStart
set_option maxRecDepth 20000 in
theorem ggX2_addTeam_X0_init : GoodIn wsX2_addTeam wsX0_init := goodIn_r _ [21, 22, 23, 24, 25, 26, 27, 28, 29, 30, 31, 32, 33, 34, 35, 36, 37, 38, 39, 40, 41, 9, 42, 43, 44, 45, 46, 47, 48, 49, 56, 57, 58, 59, 60, 61, 62, 63, 64, 65, 66, 67, 68, 69, 70, 71, 72, 73, 74, 75] (by decide +kernel) (by decide +kernel)
set_option maxRecDepth 20000 in
theorem gX2_addTeam_X0_init : GoodIn wsX2_addTeam (wsX0_init) := ggX2_addTeam_X0_init
set_option maxRecDepth 20000 in
theorem ggX2_setCrew_X2_teamNumbered : GoodIn wsX2_setCrew wsX2_teamNumbered := goodIn_ca (goodIn_r _ [7, 8, 9, 10, 41, 42, 43, 44, 45, 46] (by decide +kernel) (by decide +kernel)) (goodIn_sub (fun _ h => List.mem_cons_of_mem _ (List.mem_append_left _ (List.mem_append_right _ h))) (by decide +kernel))
set_option maxRecDepth 20000 in
theorem gX2_setCrew_X2_teamNumbered : GoodIn wsX2_setCrew (wsV RX2 79 RX2 yX2_teamNumbered wsX2_teamNumbered) := goodIn_app (goodIn_of _ (by decide +kernel)) ggX2_setCrew_X2_teamNumbered
set_option maxRecDepth 20000 in
theorem ggX2_setCrew_X2_isOutside : GoodIn wsX2_setCrew wsX2_isOutside := goodIn_r _ [13] (by decide +kernel) (by decide +kernel)
set_option maxRecDepth 20000 in
theorem gX2_setCrew_X2_isOutside : GoodIn wsX2_setCrew (va_wsS RX2 39 yX2_isOutside wsX2_isOutside) := goodIn_app (goodIn_of _ (by decide +kernel)) ggX2_setCrew_X2_isOutside
set_option maxRecDepth 20000 in
theorem ggX2_setCrew_X2_requireStart : GoodIn wsX2_setCrew wsX2_requireStart := goodIn_ca (goodIn_r _ [17, 18, 19, 20, 41, 42, 43, 44, 45, 46] (by decide +kernel) (by decide +kernel)) (goodIn_sub (fun _ h => List.mem_cons_of_mem _ (List.mem_append_right _ h)) (by decide +kernel))
set_option maxRecDepth 20000 in
theorem gX2_setCrew_X2_requireStart : GoodIn wsX2_setCrew (wsV RX2 50 RX2 yX2_requireStart wsX2_requireStart) := goodIn_app (goodIn_of _ (by decide +kernel)) ggX2_setCrew_X2_requireStart
set_option maxRecDepth 20000 in
theorem ggX2_order_X2_teamNumbered : GoodIn wsX2_order wsX2_teamNumbered := goodIn_ca (goodIn_r _ [7, 8, 9, 10, 34, 35, 36, 37, 38, 39] (by decide +kernel) (by decide +kernel)) (goodIn_sub (fun _ h => List.mem_cons_of_mem _ (List.mem_append_right _ h)) (by decide +kernel))
set_option maxRecDepth 20000 in
theorem gX2_order_X2_teamNumbered : GoodIn wsX2_order (wsV RX2 79 RX2 yX2_teamNumbered wsX2_teamNumbered) := goodIn_app (goodIn_of _ (by decide +kernel)) ggX2_order_X2_teamNumbered
set_option maxRecDepth 20000 in
theorem ggX2_order_X2_isOutside : GoodIn wsX2_order wsX2_isOutside := goodIn_r _ [13] (by decide +kernel) (by decide +kernel)
set_option maxRecDepth 20000 in
theorem gX2_order_X2_isOutside : GoodIn wsX2_order (va_wsS RX2 39 yX2_isOutside wsX2_isOutside) := goodIn_app (goodIn_of _ (by decide +kernel)) ggX2_order_X2_isOutside
set_option maxRecDepth 20000 in
theorem ggX2_run_X2_isOutside : GoodIn wsX2_run wsX2_isOutside := goodIn_r _ [9] (by decide +kernel) (by decide +kernel)
set_option maxRecDepth 20000 in
theorem gX2_run_X2_isOutside : GoodIn wsX2_run (va_wsS RX2 39 yX2_isOutside wsX2_isOutside) := goodIn_app (goodIn_of _ (by decide +kernel)) ggX2_run_X2_isOutside
set_option maxRecDepth 20000 in
theorem ggX2_run_X2_passTick : GoodIn wsX2_run wsX2_passTick := goodIn_r _ [13, 14, 15, 16, 17, 18, 19, 20, 21, 22, 23, 24, 25, 26, 27, 28, 29, 30, 31, 32, 33, 34, 35, 36, 37, 38, 39, 40, 41, 42, 43, 44, 45, 46, 47, 48, 49, 50, 51, 52, 53, 54, 55, 56, 57, 58, 59, 60, 61, 62, 63, 64, 65, 66, 67, 68, 69, 70, 71, 72, 73, 74, 75, 76, 77, 78, 79, 80, 81, 82, 83, 84, 85, 86, 87, 88, 89, 90, 91, 92, 93, 94, 95, 96, 97, 98, 99, 100, 106, 107, 108, 109, 110, 111, 112, 113, 114, 115, 116, 117, 118, 119, 120, 121, 122, 123, 124, 125, 126, 127, 128, 129, 130, 131, 132, 133, 134, 135, 136] (by decide +kernel) (by decide +kernel)
set_option maxRecDepth 20000 in
theorem gX2_run_X2_passTick : GoodIn wsX2_run (wsV RX2 112 RX2 yX2_passTick wsX2_passTick) := goodIn_app (goodIn_of _ (by decide +kernel)) ggX2_run_X2_passTick
set_option maxRecDepth 20000 in
theorem ggX2_run_X2_teamsAtEnd : GoodIn wsX2_run wsX2_teamsAtEnd := goodIn_r _ [104, 15, 105, 29, 30, 20, 31, 27, 106, 107, 108, 109, 110, 111, 112, 113, 114, 115, 116, 117, 118, 119, 120, 121, 122, 123, 124, 125, 126, 127, 128, 129, 130, 131] (by decide +kernel) (by decide +kernel)
set_option maxRecDepth 20000 in
theorem gX2_run_X2_teamsAtEnd : GoodIn wsX2_run (wsV RX2 115 RX2 yX2_teamsAtEnd wsX2_teamsAtEnd) := goodIn_app (goodIn_of _ (by decide +kernel)) ggX2_run_X2_teamsAtEnd
set_option maxRecDepth 20000 in
theorem ggX2_restart_X0_goToStart : GoodIn wsX2_restart wsX0_goToStart := goodIn_r _ [8, 9, 10, 11, 12, 13, 14, 15, 16, 17, 18, 19, 20, 21, 28, 29, 30, 31, 32, 33, 34, 35, 36, 37, 38, 39, 40, 41, 42, 43, 44, 45, 46, 47] (by decide +kernel) (by decide +kernel)
set_option maxRecDepth 20000 in
theorem gX2_restart_X0_goToStart : GoodIn wsX2_restart (wsV RX2 119 RX0 yX0_goToStart wsX0_goToStart) := goodIn_app (goodIn_of _ (by decide +kernel)) ggX2_restart_X0_goToStart
set_option maxRecDepth 20000 in
theorem ggX2_count_X2_isOutside : GoodIn wsX2_count wsX2_isOutside := goodIn_r _ [6] (by decide +kernel) (by decide +kernel)
set_option maxRecDepth 20000 in
theorem gX2_count_X2_isOutside : GoodIn wsX2_count (va_wsS RX2 39 yX2_isOutside wsX2_isOutside) := goodIn_app (goodIn_of _ (by decide +kernel)) ggX2_count_X2_isOutside
set_option maxRecDepth 20000 in
theorem ggX2_count_X2_countOf : GoodIn wsX2_count wsX2_countOf := goodIn_r _ [10, 11, 12, 13, 14, 15, 16, 5, 17, 18, 19, 20, 21, 22, 23, 24, 25, 26, 27, 28, 29, 30, 31, 32, 33, 34, 35, 36, 37, 38, 39, 40, 41, 42, 43, 44, 45, 46, 47, 48, 49, 50, 51, 52, 53, 54, 55, 56, 57, 58, 59] (by decide +kernel) (by decide +kernel)
set_option maxRecDepth 20000 in
theorem gX2_count_X2_countOf : GoodIn wsX2_count (wsV RX2 127 RX2 yX2_countOf wsX2_countOf) := goodIn_app (goodIn_of _ (by decide +kernel)) ggX2_count_X2_countOf
set_option maxRecDepth 20000 in
theorem ggX2_team_X2_teamNumbered : GoodIn wsX2_team wsX2_teamNumbered := goodIn_ca (goodIn_r _ [7, 1, 2, 8, 36, 37, 38, 39, 40, 41] (by decide +kernel) (by decide +kernel)) (goodIn_sub (fun _ h => List.mem_cons_of_mem _ (List.mem_append_right _ h)) (by decide +kernel))
set_option maxRecDepth 20000 in
theorem gX2_team_X2_teamNumbered : GoodIn wsX2_team (wsV RX2 79 RX2 yX2_teamNumbered wsX2_teamNumbered) := goodIn_app (goodIn_of _ (by decide +kernel)) ggX2_team_X2_teamNumbered
set_option maxRecDepth 20000 in
theorem ggX2_team_X2_isOutside : GoodIn wsX2_team wsX2_isOutside := goodIn_r _ [11] (by decide +kernel) (by decide +kernel)
set_option maxRecDepth 20000 in
theorem gX2_team_X2_isOutside : GoodIn wsX2_team (va_wsS RX2 39 yX2_isOutside wsX2_isOutside) := goodIn_app (goodIn_of _ (by decide +kernel)) ggX2_team_X2_isOutside
set_option maxRecDepth 20000 in
theorem ggX2_team_X0_fact : GoodIn wsX2_team wsX0_fact := goodIn_r _ [16, 17, 18, 19, 20, 21, 22, 23, 24, 25, 26, 27, 15, 28, 29, 30, 31, 32, 33, 34, 35, 42, 43, 44, 45, 46, 47, 48, 49, 50, 51, 52, 53, 54, 55, 56, 57, 58, 59, 60, 61] (by decide +kernel) (by decide +kernel)
set_option maxRecDepth 20000 in
theorem gX2_team_X0_fact : GoodIn wsX2_team (wsV RX2 133 RX0 yX0_fact wsX0_fact) := goodIn_app (goodIn_of _ (by decide +kernel)) ggX2_team_X0_fact
set_option maxRecDepth 20000 in
theorem ggX2_roller_X2_teamNumbered : GoodIn wsX2_roller wsX2_teamNumbered := goodIn_ca (goodIn_r _ [9, 1, 2, 10, 31, 32, 33, 34, 35, 36] (by decide +kernel) (by decide +kernel)) (goodIn_sub (fun _ h => List.mem_cons_of_mem _ (List.mem_append_left _ (List.mem_append_right _ h))) (by decide +kernel))
set_option maxRecDepth 20000 in
theorem gX2_roller_X2_teamNumbered : GoodIn wsX2_roller (wsV RX2 79 RX2 yX2_teamNumbered wsX2_teamNumbered) := goodIn_app (goodIn_of _ (by decide +kernel)) ggX2_roller_X2_teamNumbered
set_option maxRecDepth 20000 in
theorem ggX2_next_X2_teamNumbered : GoodIn wsX2_next wsX2_teamNumbered := goodIn_ca (goodIn_r _ [8, 1, 2, 9, 60, 61, 62, 63, 64, 65] (by decide +kernel) (by decide +kernel)) (goodIn_sub (fun _ h => List.mem_cons_of_mem _ (List.mem_append_right _ h)) (by decide +kernel))
set_option maxRecDepth 20000 in
theorem gX2_next_X2_teamNumbered : GoodIn wsX2_next (wsV RX2 79 RX2 yX2_teamNumbered wsX2_teamNumbered) := goodIn_app (goodIn_of _ (by decide +kernel)) ggX2_next_X2_teamNumbered
set_option maxRecDepth 20000 in
theorem ggX2_next_X2_isOutside : GoodIn wsX2_next wsX2_isOutside := goodIn_r _ [12] (by decide +kernel) (by decide +kernel)
set_option maxRecDepth 20000 in
theorem gX2_next_X2_isOutside : GoodIn wsX2_next (va_wsS RX2 39 yX2_isOutside wsX2_isOutside) := goodIn_app (goodIn_of _ (by decide +kernel)) ggX2_next_X2_isOutside
set_option maxRecDepth 20000 in
theorem ggX2_next_X0_pull : GoodIn wsX2_next wsX0_pull := goodIn_r _ [17, 18, 19, 20, 21, 66, 67, 68, 69, 70, 71, 72, 73, 74, 75, 76, 77, 78, 79, 80, 81, 82, 83, 84, 85] (by decide +kernel) (by decide +kernel)
set_option maxRecDepth 20000 in
theorem gX2_next_X0_pull : GoodIn wsX2_next (wsV RX2 149 RX0 yX0_pull wsX0_pull) := goodIn_app (goodIn_of _ (by decide +kernel)) ggX2_next_X0_pull
set_option maxRecDepth 20000 in
theorem ggX2_next_X0_drag : GoodIn wsX2_next wsX0_drag := goodIn_r _ [25, 26, 27, 28, 29, 30, 31, 32, 33, 34, 35, 36, 37, 38, 39, 40, 41, 42, 43, 44, 45, 46, 47, 16, 48, 49, 50, 51, 52, 53, 54, 55, 66, 67, 68, 69, 70, 71, 72, 73, 74, 75, 76, 77, 78, 79, 80, 81, 82, 83, 84, 85, 86, 87, 88, 89, 90] (by decide +kernel) (by decide +kernel)
set_option maxRecDepth 20000 in
theorem gX2_next_X0_drag : GoodIn wsX2_next (wsV RX2 152 RX0 yX0_drag wsX0_drag) := goodIn_app (goodIn_of _ (by decide +kernel)) ggX2_next_X0_drag
set_option maxRecDepth 20000 in
theorem ggX2_next_X0_wayWith : GoodIn wsX2_next wsX0_wayWith := goodIn_r _ [59, 27, 28, 29, 30, 31, 32, 33, 34, 66, 67, 68, 69, 70, 71, 72, 73, 74, 75, 76, 77, 78, 79, 80, 81, 82, 83, 84, 85] (by decide +kernel) (by decide +kernel)
set_option maxRecDepth 20000 in
theorem gX2_next_X0_wayWith : GoodIn wsX2_next (wsV RX2 156 RX0 yX0_wayWith wsX0_wayWith) := goodIn_app (goodIn_of _ (by decide +kernel)) ggX2_next_X0_wayWith
set_option maxRecDepth 20000 in
theorem ggX2_ranked_X2_teamAtRank : GoodIn wsX2_ranked wsX2_teamAtRank := goodIn_r _ [8, 9, 10, 11, 12, 7, 13, 14, 15, 16, 17, 18, 19, 20, 21, 22, 23, 24, 25, 26, 27, 28, 29, 30, 31, 32, 33, 34, 35, 36, 37, 38, 39, 40, 41, 42, 43, 44, 45, 46, 47, 48, 49, 50, 51] (by decide +kernel) (by decide +kernel)
set_option maxRecDepth 20000 in
theorem gX2_ranked_X2_teamAtRank : GoodIn wsX2_ranked (wsV RX2 162 RX2 yX2_teamAtRank wsX2_teamAtRank) := goodIn_app (goodIn_of _ (by decide +kernel)) ggX2_ranked_X2_teamAtRank
set_option maxRecDepth 20000 in
theorem ggX2_foresee_X2_teamNumbered : GoodIn wsX2_foresee wsX2_teamNumbered := goodIn_ca (goodIn_r _ [10, 1, 2, 11, 123, 124, 125, 126, 127, 128] (by decide +kernel) (by decide +kernel)) (goodIn_sub (fun _ h => List.mem_cons_of_mem _ (List.mem_append_left _ (List.mem_append_right _ h))) (by decide +kernel))
set_option maxRecDepth 20000 in
theorem gX2_foresee_X2_teamNumbered : GoodIn wsX2_foresee (wsV RX2 79 RX2 yX2_teamNumbered wsX2_teamNumbered) := goodIn_app (goodIn_of _ (by decide +kernel)) ggX2_foresee_X2_teamNumbered
set_option maxRecDepth 20000 in
theorem ggX2_foresee_X2_isOutside : GoodIn wsX2_foresee wsX2_isOutside := goodIn_r _ [14] (by decide +kernel) (by decide +kernel)
set_option maxRecDepth 20000 in
theorem gX2_foresee_X2_isOutside : GoodIn wsX2_foresee (va_wsS RX2 39 yX2_isOutside wsX2_isOutside) := goodIn_app (goodIn_of _ (by decide +kernel)) ggX2_foresee_X2_isOutside
set_option maxRecDepth 20000 in
theorem ggX2_foresee_X2_lookAhead : GoodIn wsX2_foresee wsX2_lookAhead := goodIn_r _ [18, 19, 20, 21, 22, 23, 24, 25, 26, 27, 28, 29, 30, 31, 32, 33, 34, 35, 36, 37, 38, 39, 40, 41, 42, 43, 44, 45, 46, 47, 48, 49, 50, 51, 52, 53, 54, 55, 56, 57, 58, 59, 60, 61, 62, 63, 64, 65, 66, 67, 68, 69, 70, 71, 72, 73, 74, 75, 76, 77, 78, 79, 80, 81, 82, 83, 84, 85, 86, 87, 88, 89, 90, 91, 92, 93, 94, 95, 96, 97, 98, 99, 100, 101, 102, 103, 104, 105, 106, 107, 108, 109, 110, 111, 112, 113, 129, 130, 131, 132, 133, 134, 135, 136, 137, 138, 139, 140, 141, 142, 143, 144, 145, 146, 147, 148, 123, 124, 125, 126, 127, 128, 149, 150, 151, 152, 153] (by decide +kernel) (by decide +kernel)
set_option maxRecDepth 20000 in
theorem gX2_foresee_X2_lookAhead : GoodIn wsX2_foresee (wsV RX2 167 RX2 yX2_lookAhead wsX2_lookAhead) := goodIn_app (goodIn_of _ (by decide +kernel)) ggX2_foresee_X2_lookAhead
set_option maxRecDepth 20000 in
theorem ggX2_foresee_X2_rankOfTrialAmongRivals : GoodIn wsX2_foresee wsX2_rankOfTrialAmongRivals := goodIn_r _ [117, 11, 118, 5, 15, 16, 17, 9, 18, 19, 20, 21, 22, 23, 24, 25, 26, 27, 28, 29, 30, 31, 32, 33, 34, 35, 36, 37, 38, 39, 40, 41, 42, 43, 44, 45, 46, 47, 48, 49, 50, 51, 52, 53, 54, 55, 56, 57, 58, 59, 60, 61, 62, 63, 64, 65, 66, 67, 68, 69, 70, 71, 72, 73, 74, 75, 76, 77, 78, 79, 80, 81, 82, 83, 84, 85, 86, 87, 88, 89, 90, 91, 92, 93, 94, 95, 96, 97, 98, 99, 100, 101, 102, 103, 104, 105, 106, 107, 108, 109, 110, 111, 112, 113, 119, 120, 121, 122, 123, 124, 125, 126, 127, 128, 129, 130, 131, 132, 133, 134, 135, 136, 137, 138, 139, 140, 141, 142, 143, 144, 145, 146, 147, 148, 149, 150, 151, 152, 153] (by decide +kernel) (by decide +kernel)
set_option maxRecDepth 20000 in
theorem gX2_foresee_X2_rankOfTrialAmongRivals : GoodIn wsX2_foresee (wsV RX2 174 RX2 yX2_rankOfTrialAmongRivals wsX2_rankOfTrialAmongRivals) := goodIn_app (goodIn_of _ (by decide +kernel)) ggX2_foresee_X2_rankOfTrialAmongRivals
set_option maxRecDepth 20000 in
theorem ggX2_advise_X2_teamNumbered : GoodIn wsX2_advise wsX2_teamNumbered := goodIn_ca (goodIn_r _ [8, 9, 10, 11, 114, 115, 116, 117, 118, 119] (by decide +kernel) (by decide +kernel)) (goodIn_sub (fun _ h => List.mem_cons_of_mem _ (List.mem_append_right _ h)) (by decide +kernel))
set_option maxRecDepth 20000 in
theorem gX2_advise_X2_teamNumbered : GoodIn wsX2_advise (wsV RX2 79 RX2 yX2_teamNumbered wsX2_teamNumbered) := goodIn_app (goodIn_of _ (by decide +kernel)) ggX2_advise_X2_teamNumbered
set_option maxRecDepth 20000 in
theorem ggX2_advise_X2_isOutside : GoodIn wsX2_advise wsX2_isOutside := goodIn_r _ [14] (by decide +kernel) (by decide +kernel)
set_option maxRecDepth 20000 in
theorem gX2_advise_X2_isOutside : GoodIn wsX2_advise (va_wsS RX2 39 yX2_isOutside wsX2_isOutside) := goodIn_app (goodIn_of _ (by decide +kernel)) ggX2_advise_X2_isOutside
set_option maxRecDepth 20000 in
theorem ggX2_advise_X2_lookAhead : GoodIn wsX2_advise wsX2_lookAhead := goodIn_r _ [18, 19, 20, 21, 22, 23, 24, 25, 26, 27, 28, 29, 30, 31, 32, 33, 34, 35, 36, 37, 38, 39, 40, 41, 42, 43, 44, 45, 46, 47, 48, 49, 50, 51, 52, 53, 54, 55, 56, 57, 58, 59, 60, 61, 62, 63, 64, 65, 66, 67, 68, 69, 70, 71, 72, 73, 74, 75, 76, 77, 78, 79, 80, 81, 82, 83, 84, 85, 86, 87, 88, 89, 90, 91, 92, 93, 94, 95, 96, 97, 98, 99, 100, 101, 102, 103, 104, 105, 106, 107, 108, 109, 110, 111, 112, 113, 120, 121, 122, 123, 124, 125, 126, 127, 128, 129, 130, 131, 132, 133, 134, 135, 136, 137, 138, 139, 114, 115, 116, 117, 118, 119, 140, 141, 142, 143, 144] (by decide +kernel) (by decide +kernel)
set_option maxRecDepth 20000 in
theorem gX2_advise_X2_lookAhead : GoodIn wsX2_advise (wsV RX2 167 RX2 yX2_lookAhead wsX2_lookAhead) := goodIn_app (goodIn_of _ (by decide +kernel)) ggX2_advise_X2_lookAhead
set_option maxRecDepth 20000 in
theorem ggX2_digest_X2_countOf : GoodIn wsX2_digest wsX2_countOf := goodIn_r _ [9, 10, 4, 11, 12, 13, 14, 8, 15, 3, 16, 17, 18, 19, 20, 21, 22, 23, 24, 25, 67, 68, 69, 70, 71, 72, 73, 74, 75, 76, 77, 78, 79, 80, 81, 82, 83, 84, 85, 86, 87, 88, 89, 90, 91, 92, 93, 94, 95, 96, 97] (by decide +kernel) (by decide +kernel)
set_option maxRecDepth 20000 in
theorem gX2_digest_X2_countOf : GoodIn wsX2_digest (wsV RX2 127 RX2 yX2_countOf wsX2_countOf) := goodIn_app (goodIn_of _ (by decide +kernel)) ggX2_digest_X2_countOf
set_option maxRecDepth 20000 in
theorem ggX2_digest_X0_addTo : GoodIn wsX2_digest wsX0_addTo := goodIn_r _ [29, 30, 31, 32, 33, 34, 35, 19, 36, 37, 38, 39, 40, 21, 41, 42, 43, 44, 45, 46, 47, 48, 49, 50, 51, 52, 78, 79, 80, 81, 82, 83, 84, 85, 86, 87, 88, 89, 90, 91, 92, 93, 94, 95, 96, 97] (by decide +kernel) (by decide +kernel)
set_option maxRecDepth 20000 in
theorem gX2_digest_X0_addTo : GoodIn wsX2_digest (wsV RX2 186 RX0 yX0_addTo wsX0_addTo) := goodIn_app (goodIn_of _ (by decide +kernel)) ggX2_digest_X0_addTo
set_option maxRecDepth 20000 in
theorem ggX2_digest_X2_teamAtRank : GoodIn wsX2_digest wsX2_teamAtRank := goodIn_r _ [56, 3, 57, 58, 59, 8, 60, 61, 62, 63, 19, 64, 21, 37, 65, 66, 17, 18, 20, 67, 68, 69, 70, 71, 72, 78, 79, 80, 81, 82, 83, 84, 85, 86, 87, 88, 89, 90, 91, 92, 93, 94, 95, 96, 97] (by decide +kernel) (by decide +kernel)
set_option maxRecDepth 20000 in
theorem gX2_digest_X2_teamAtRank : GoodIn wsX2_digest (wsV RX2 162 RX2 yX2_teamAtRank wsX2_teamAtRank) := goodIn_app (goodIn_of _ (by decide +kernel)) ggX2_digest_X2_teamAtRank
set_option maxRecDepth 20000 in
theorem ggX2_passTick_X0_passTick : GoodIn wsX2_passTick wsX0_passTick := goodIn_r _ [8, 9, 10, 11, 12, 13, 14, 15, 16, 17, 7, 18, 19, 20, 21, 22, 23, 24, 25, 26, 27, 28, 29, 30, 31, 32, 33, 34, 35, 36, 37, 38, 39, 40, 41, 42, 43, 44, 45, 46, 47, 48, 49, 50, 51, 52, 53, 54, 55, 56, 57, 58, 59, 60, 61, 62, 63, 64, 65, 66, 67, 68, 69, 70, 71, 72, 73, 74, 75, 76, 77, 78, 79, 80, 81, 82, 83, 84, 85, 86, 87, 94, 95, 96, 97, 98, 99, 100, 101, 102, 103, 104, 105, 106, 107, 108, 109, 110, 111, 112, 113, 114, 115, 116, 117, 118] (by decide +kernel) (by decide +kernel)
set_option maxRecDepth 20000 in
theorem gX2_passTick_X0_passTick : GoodIn wsX2_passTick (wsV RX2 194 RX0 yX0_passTick wsX0_passTick) := goodIn_app (goodIn_of _ (by decide +kernel)) ggX2_passTick_X0_passTick
set_option maxRecDepth 20000 in
theorem ggX2_lookAhead_X0_copyFrom : GoodIn wsX2_lookAhead wsX0_copyFrom := goodIn_r _ [7, 8, 9, 10, 11, 12, 13, 14, 15, 16, 17, 18, 19, 20, 21, 22, 23, 24, 25, 26, 27, 28, 29, 6, 30, 96, 97, 98, 99, 100, 101, 102, 103, 104, 105, 106, 107, 108, 109, 110, 111, 112, 113, 114, 115] (by decide +kernel) (by decide +kernel)
set_option maxRecDepth 20000 in
theorem gX2_lookAhead_X0_copyFrom : GoodIn wsX2_lookAhead (wsV RX2 197 RX0 yX0_copyFrom wsX0_copyFrom) := goodIn_app (goodIn_of _ (by decide +kernel)) ggX2_lookAhead_X0_copyFrom
set_option maxRecDepth 20000 in
theorem ggX2_lookAhead_X0_passTick : GoodIn wsX2_lookAhead wsX0_passTick := goodIn_r _ [34, 21, 20, 23, 16, 18, 24, 35, 36, 37, 6, 38, 39, 40, 41, 42, 12, 13, 19, 43, 44, 45, 46, 47, 48, 49, 50, 22, 51, 52, 53, 54, 55, 56, 57, 58, 59, 60, 61, 10, 62, 63, 64, 65, 66, 67, 68, 69, 70, 71, 72, 73, 74, 75, 11, 25, 76, 77, 78, 79, 9, 80, 81, 82, 83, 84, 85, 86, 87, 88, 89, 90, 91, 14, 26, 27, 17, 92, 93, 94, 95, 96, 97, 98, 99, 100, 101, 102, 103, 104, 105, 106, 107, 108, 109, 110, 111, 112, 113, 114, 115, 122, 123, 124, 125, 126] (by decide +kernel) (by decide +kernel)
set_option maxRecDepth 20000 in
theorem gX2_lookAhead_X0_passTick : GoodIn wsX2_lookAhead (wsV RX2 194 RX0 yX0_passTick wsX0_passTick) := goodIn_app (goodIn_of _ (by decide +kernel)) ggX2_lookAhead_X0_passTick
set_option maxRecDepth 20000 in
theorem ggX2_rankOfTrialAmongRivals_X2_lookAhead : GoodIn wsX2_rankOfTrialAmongRivals wsX2_lookAhead := goodIn_r _ [8, 9, 10, 11, 12, 13, 14, 15, 16, 17, 18, 19, 20, 21, 22, 23, 24, 25, 26, 27, 28, 29, 30, 31, 32, 33, 34, 35, 36, 37, 38, 39, 40, 41, 42, 43, 44, 45, 46, 47, 48, 49, 50, 51, 52, 53, 54, 55, 56, 57, 58, 59, 60, 61, 62, 63, 64, 65, 66, 67, 68, 69, 70, 71, 72, 73, 74, 75, 76, 77, 78, 79, 80, 81, 82, 83, 84, 85, 86, 87, 88, 89, 90, 91, 92, 93, 94, 95, 96, 97, 98, 99, 100, 101, 102, 103, 114, 115, 116, 117, 118, 119, 120, 121, 122, 123, 124, 125, 126, 127, 128, 129, 130, 131, 132, 133, 108, 109, 110, 111, 112, 113, 134, 135, 136, 137, 138] (by decide +kernel) (by decide +kernel)
set_option maxRecDepth 20000 in
theorem gX2_rankOfTrialAmongRivals_X2_lookAhead : GoodIn wsX2_rankOfTrialAmongRivals (wsV RX2 167 RX2 yX2_lookAhead wsX2_lookAhead) := goodIn_app (goodIn_of _ (by decide +kernel)) ggX2_rankOfTrialAmongRivals_X2_lookAhead
set_option maxRecDepth 20000 in
theorem ggX2_rankOfTrialAmongRivals_X0_isAheadOf : GoodIn wsX2_rankOfTrialAmongRivals wsX0_isAheadOf := goodIn_r _ [107, 32, 26, 16, 43, 44, 45, 14, 46, 114, 115, 116, 117, 118, 119, 120, 121, 122, 123, 124, 125, 126, 127, 128, 129, 130, 131, 132, 133] (by decide +kernel) (by decide +kernel)
set_option maxRecDepth 20000 in
theorem gX2_rankOfTrialAmongRivals_X0_isAheadOf : GoodIn wsX2_rankOfTrialAmongRivals (wsV RX2 201 RX0 yX0_isAheadOf wsX0_isAheadOf) := goodIn_app (goodIn_of _ (by decide +kernel)) ggX2_rankOfTrialAmongRivals_X0_isAheadOf
set_option maxRecDepth 20000 in
theorem ggX2_rankOf_X0_isAheadOf : GoodIn wsX2_rankOf wsX0_isAheadOf := goodIn_r _ [6, 7, 8, 9, 10, 11, 12, 5, 13, 20, 21, 22, 23, 24, 25, 26, 27, 28, 29, 30, 31, 32, 33, 34, 35, 36, 37, 38, 39] (by decide +kernel) (by decide +kernel)
set_option maxRecDepth 20000 in
theorem gX2_rankOf_X0_isAheadOf : GoodIn wsX2_rankOf (wsV RX2 201 RX0 yX0_isAheadOf wsX0_isAheadOf) := goodIn_app (goodIn_of _ (by decide +kernel)) ggX2_rankOf_X0_isAheadOf
set_option maxRecDepth 20000 in
theorem ggX2_teamAtRank_X2_rankOf : GoodIn wsX2_teamAtRank wsX2_rankOf := goodIn_r _ [6, 1, 7, 8, 9, 10, 11, 12, 13, 14, 15, 16, 17, 18, 19, 20, 21, 22, 23, 24, 25, 26, 27, 28, 29, 30, 31, 32, 33, 34, 35, 36, 37, 38, 39, 40, 41, 42, 43, 44] (by decide +kernel) (by decide +kernel)
set_option maxRecDepth 20000 in
theorem gX2_teamAtRank_X2_rankOf : GoodIn wsX2_teamAtRank (wsV RX2 205 RX2 yX2_rankOf wsX2_rankOf) := goodIn_app (goodIn_of _ (by decide +kernel)) ggX2_teamAtRank_X2_rankOf
set_option maxRecDepth 20000 in
theorem ggX2_countOf_X2_teamsAtEnd : GoodIn wsX2_countOf wsX2_teamsAtEnd := goodIn_r _ [8, 9, 10, 11, 12, 13, 14, 15, 20, 21, 22, 23, 24, 25, 31, 32, 33, 34, 35, 36, 37, 38, 39, 40, 41, 42, 43, 44, 45, 46, 47, 48, 49, 50] (by decide +kernel) (by decide +kernel)
set_option maxRecDepth 20000 in
theorem gX2_countOf_X2_teamsAtEnd : GoodIn wsX2_countOf (wsV RX2 115 RX2 yX2_teamsAtEnd wsX2_teamsAtEnd) := goodIn_app (goodIn_of _ (by decide +kernel)) ggX2_countOf_X2_teamsAtEnd
set_option maxRecDepth 20000 in
theorem ggX2_countOf_X2_ropesBroken : GoodIn wsX2_countOf wsX2_ropesBroken := goodIn_r _ [19, 9, 20, 21, 22, 23, 24, 25, 31, 32, 33, 34, 35, 36, 37, 38, 39, 40, 41, 42, 43, 44, 45, 46, 47, 48, 49, 50] (by decide +kernel) (by decide +kernel)
set_option maxRecDepth 20000 in
theorem gX2_countOf_X2_ropesBroken : GoodIn wsX2_countOf (wsV RX2 212 RX2 yX2_ropesBroken wsX2_ropesBroken) := goodIn_app (goodIn_of _ (by decide +kernel)) ggX2_countOf_X2_ropesBroken
set_option maxRecDepth 20000 in
theorem ggX2_teamsAtEnd_X0_isAtEnd : GoodIn wsX2_teamsAtEnd wsX0_isAtEnd := goodIn_r _ [6, 7, 14, 15, 16, 17, 18, 19, 20, 21, 22, 23, 24, 25, 26, 27, 28, 29, 30, 31, 32, 33] (by decide +kernel) (by decide +kernel)
set_option maxRecDepth 20000 in
theorem gX2_teamsAtEnd_X0_isAtEnd : GoodIn wsX2_teamsAtEnd (wsV RX2 215 RX0 yX0_isAtEnd wsX0_isAtEnd) := goodIn_app (goodIn_of _ (by decide +kernel)) ggX2_teamsAtEnd_X0_isAtEnd
end
section
/-! THE LAYER OF THIS CLAIM: the cells, what is always known, contracts of methods that read and of methods that write in place, their calls -/
abbrev oT (F : Nat → Int32) (p q r : Nat) : va_E := .inr (0, [.int (F 0), .int (F 1), .int (F 2), .int (F 3), .int (F 4), .int (F 5), .int (F 6), .int (F 7), .int (F 8), .int (F 9), .int (F 10), .int (F 11), .int (F 12), .int (F 13), .int (F 14), .int (F 15), .int (F 16), .ref p, .ref q, .ref r])
abbrev oK (F : Nat → Int32) (p q r : Nat) : va_E := .inr (1, [.ref p, .ref q, .ref r, .int (F 3), .int (F 4)])
abbrev oR (a b c d : Nat) (n t : Int32) : va_E := .inr (2, [.ref a, .ref b, .ref c, .ref d, .int n, .int t])
abbrev oM (F : Nat → Int32) (g t z : Nat) : va_E := .inr (3, [.int (F 0), .int (F 1), .int (F 2), .int (F 3), .int (F 4), .int (F 5), .ref g, .ref t, .ref z])
abbrev aI (cI : ClassId) (n : Nat) (f : Nat → Int32) : va_E := .inl (cI, n, .inl f)
abbrev aQ (cT : ClassId) (n : Nat) (f : Nat → Option Nat) : va_E := .inl (cT, n, .inr (.inr (.inr (.inr f))))
def bI (q : Bool) : Int32 := if q = true then 1 else 0
theorem bI_nar (q : Bool) : narrow .boolean (.int (bI q)) = .int (bI q) := by cases q <;> rfl
def imax (x y : Int32) : Int32 := if x < y then y else x
def imin (x y : Int32) : Int32 := if y < x then y else x
def sp_nest : List Cond := [.fieldLinkNest RX2 66 "SledgeRace$Track" "stretches" "I" "SledgeRace", .fieldLinkNest RX2 53 "SledgeRace$Track" "length" "I" "SledgeRace", .fieldLinkNest RX0 107 "SledgeRace$Track" "length" "I" "SledgeRace", .fieldLinkNest RX2 209 "SledgeRace$Team" "number" "I" "SledgeRace", .fieldLinkNest RX2 136 "SledgeRace$Team" "rollers" "I" "SledgeRace", .fieldLinkNest RX2 85 "SledgeRace$Team" "pullers" "I" "SledgeRace", .fieldLinkNest RX2 88 "SledgeRace$Team" "strength" "I" "SledgeRace", .fieldLinkNest RX2 91 "SledgeRace$Team" "runners" "I" "SledgeRace", .fieldLinkNest RX2 94 "SledgeRace$Team" "wholeRope" "I" "SledgeRace", .fieldLinkNest RX2 102 "SledgeRace$Team" "effort" "I" "SledgeRace", .fieldLinkNest RX2 105 "SledgeRace$Team" "gap" "I" "SledgeRace", .fieldLinkNest RX2 171 "SledgeRace$Team" "front" "I" "SledgeRace", .fieldLinkNest RX2 177 "SledgeRace$Team" "breath" "I" "SledgeRace", .fieldLinkNest RX2 97 "SledgeRace$Team" "rope" "I" "SledgeRace", .fieldLinkNest RX2 219 "SledgeRace$Team" "breaks" "I" "SledgeRace", .fieldLinkNest RX2 139 "SledgeRace$Team" "places" "[I" "SledgeRace"]
theorem sp_nest_tab : ∀ w ∈ sp_nest, w.onTables = true := by decide
def KK (D : va_G) (cI cT : ClassId) (U : State) : Prop := va_K D vwCl [(cI, .int), (cT, .object RX0)] U ∧ ∀ w ∈ sp_nest, va_Nw w U
theorem KK.warm {D : va_G} {cI cT : ClassId} {s U : State} (hW : s.WarmedH U.vm) (h : KK D cI cT s) : KK D cI cT U := by
  refine ⟨va_K.moved hW.alike h.1, fun w hw => ?_⟩
  have h2 := h.2 w hw
  simp only [sp_nest, List.mem_cons, List.not_mem_nil, or_false] at hw
  rcases hw with rfl | rfl | rfl | rfl | rfl | rfl | rfl | rfl | rfl | rfl | rfl | rfl | rfl | rfl | rfl | rfl <;> exact va_Nw.warmF hW h2
theorem KK.call {D : va_G} {cI cT : ClassId} {U : State} {g : JFrame} {mk : MethodId} {a : Array Value} (h : KK D cI cT U) : KK D cI cT (U.calling g mk a) :=
  ⟨va_K.moved (u := U) (U := U.calling g mk a) (Vm.Alike.refl U.vm) h.1, fun w hw => va_Nw.same (u := U) (U := U.calling g mk a) (sp_nest_tab w hw) rfl (h.2 w hw)⟩
/-- a nest mate's field word -/
theorem KK.n {D : va_G} {cI cT : ClassId} {s : State} {args : Array Value} (h : KK D cI cT s) {w : Cond} (hw : w ∈ sp_nest) : w.before args s = true := va_Nw.use (sp_nest_tab w hw) (h.2 w hw)
def RoP (D : va_G) (cI cT : ClassId) (av : List Value) (w : va_W) : Array Value → State → Prop := va_Pc av (fun U => va_P D vwCl w U.heap ∧ KK D cI cT U)
theorem RoP.blind {D : va_G} {cI cT : ClassId} {av : List Value} {w : va_W} : FrameBlind (RoP D cI cT av w) := fun _ _ _ _ h => ⟨h.1, h.2.1, h.2.2.call⟩
/-- a method that reads: its answer is v, the heap is the same -/
abbrev MetR (l : Launch) (D : va_G) (cI cT : ClassId) (y : MethodName) (ws : List Cond) (rm : Room) (av : List Value) (w : va_W) (v : Int32) : Prop := Met l y ws rm (RoP D cI cT av w) (QcRead v) 0 0 (fun _ => False)
abbrev MetRl (l : Launch) (D : va_G) (cI cT : ClassId) (y : MethodName) (ws : List Cond) (rm : Room) (av : List Value) (w : va_W) (v : Int64) : Prop := Met l y ws rm (RoP D cI cT av w) (vp_Sl (fun r => r = v)) 0 0 (fun _ => False)
def fr (fs : List Nat) : Nat → Prop := fun q => q ∈ fs
def MuP (D : va_G) (cI cT : ClassId) (av : List Value) (w r : va_W) : Array Value → State → Prop := va_Pc av (fun U => va_P D vwCl w U.heap ∧ va_P D vwCl r U.heap ∧ KK D cI cT U ∧ ((w ++ r).map Prod.fst).Nodup)
theorem MuP.blind {D : va_G} {cI cT : ClassId} {av : List Value} {w r : va_W} : FrameBlind (MuP D cI cT av w r) := fun _ _ _ _ h => ⟨h.1, h.2.1, h.2.2.1, h.2.2.2.1.call, h.2.2.2.2⟩
/-- a method that writes the cells w in place (reading r too): they are w' then; no other cell changes -/
abbrev MetV (l : Launch) (D : va_G) (cI cT : ClassId) (y : MethodName) (ws : List Cond) (rm : Room) (av : List Value) (w r w' : va_W) : Prop := Met l y ws rm (MuP D cI cT av w r) (va_Qv (S := Unit) (fun _ => True) (fun _ t => va_P D vwCl w' t.heap) (fr (w.map Prod.fst))) 0 0 (fr (w.map Prod.fst))
abbrev MetI (l : Launch) (D : va_G) (cI cT : ClassId) (y : MethodName) (ws : List Cond) (rm : Room) (av : List Value) (w r w' : va_W) (v : Int32) : Prop := Met l y ws rm (MuP D cI cT av w r) (va_Qi (S := Unit) (fun z _ => z = v) (fun _ t => va_P D vwCl w' t.heap) (fr (w.map Prod.fst))) 0 0 (fr (w.map Prod.fst))
abbrev MetL (l : Launch) (D : va_G) (cI cT : ClassId) (y : MethodName) (ws : List Cond) (rm : Room) (av : List Value) (w r w' : va_W) (v : Int64) : Prop := Met l y ws rm (MuP D cI cT av w r) (va_Ql (S := Unit) (fun z _ => z = v) (fun _ t => va_P D vwCl w' t.heap) (fr (w.map Prod.fst))) 0 0 (fr (w.map Prod.fst))
theorem sp_nsub {as bs : List Nat} (h : as.Nodup) (is : List Nat) (hn : va_nd is = true) (hs : is.map (fun i => as[i]?) = bs.map some) : bs.Nodup := by
  have key : ∀ (k a : Nat), bs[k]? = some a → ∃ i, is[k]? = some i ∧ as[i]? = some a := by
    intro k a hk
    have h1 : (is.map (fun i => as[i]?))[k]? = some (some a) := by rw [hs, List.getElem?_map, hk]; rfl
    rw [List.getElem?_map] at h1
    cases hi : is[k]? with
    | none => rw [hi] at h1; cases h1
    | some i => rw [hi] at h1; exact ⟨i, rfl, Option.some.inj h1⟩
  refine List.pairwise_iff_getElem.mpr fun i j hi hj hij hbad => ?_
  obtain ⟨x, h1, h2⟩ := key i _ (List.getElem?_eq_getElem hi)
  obtain ⟨y, h3, h4⟩ := key j _ (List.getElem?_eq_getElem hj)
  rw [hbad] at h2
  have hxy : x = y := (List.getElem?_inj (List.getElem?_eq_some_iff.mp h2).1 h).mp (h2.trans h4.symm)
  subst hxy
  exact absurd (va_nd_inj is hn i j x h1 h3) (Nat.ne_of_lt hij)
theorem sp_D {A : Nat → Prop} {w : va_W} (h : (w.map Prod.fst).Nodup) (hA : ∀ q ∈ w.map Prod.fst, A q) : va_D A w := by
  refine ⟨fun i j x y hi hj hxy => ?_, fun k q hk => hA _ (List.mem_map_of_mem (List.mem_of_getElem? hk))⟩
  have h1 : (w.map Prod.fst)[i]? = some x.1 := by rw [List.getElem?_map, hi]; rfl
  have h2 : (w.map Prod.fst)[j]? = some y.1 := by rw [List.getElem?_map, hj]; rfl
  exact (List.getElem?_inj (List.getElem?_eq_some_iff.mp h1).1 h).mp (by rw [h1, h2, hxy])
theorem sp_Dsame {A : Nat → Prop} {w w' : va_W} (h : w'.map Prod.fst = w.map Prod.fst) (hD : va_D A w) : va_D A w' := by
  have key : ∀ (k : Nat) (q : Nat × va_E), w'[k]? = some q → ∃ q0, w[k]? = some q0 ∧ q0.1 = q.1 := by
    intro k q hk
    have h1 : (w'.map Prod.fst)[k]? = some q.1 := by rw [List.getElem?_map, hk]; rfl
    rw [h, List.getElem?_map] at h1
    cases hi : w[k]? with
    | none => rw [hi] at h1; cases h1
    | some q0 => rw [hi] at h1; exact ⟨q0, rfl, Option.some.inj h1⟩
  refine ⟨fun i j x y hi hj hxy => ?_, fun k q hk => ?_⟩
  · obtain ⟨x0, h1, h2⟩ := key i x hi
    obtain ⟨y0, h3, h4⟩ := key j y hj
    exact hD.1 i j x0 y0 h1 h3 (h2.trans (hxy.trans h4.symm))
  · obtain ⟨q0, h1, h2⟩ := key k q hk
    rw [← h2]
    exact hD.2 k q0 h1
def repl (W : va_W) : List Nat → va_W → va_W
  | i :: is, q :: qs => repl (W.set i q) is qs
  | _, _ => W
theorem repl_get : ∀ (is : List Nat) (qs : va_W) (W : va_W) (k : Nat) (q : Nat × va_E), is.length = qs.length → (repl W is qs)[k]? = some q → (∃ j : Nat, qs[j]? = some q) ∨ (W[k]? = some q ∧ k ∉ is)
  | [], [], W, k, q, _, h => Or.inr ⟨h, List.not_mem_nil⟩
  | i :: is, z :: qs, W, k, q, hl, h => by
    rcases repl_get is qs (W.set i z) k q (Nat.succ.inj hl) h with ⟨j, hj⟩ | ⟨h1, h2⟩
    · exact Or.inl ⟨j + 1, hj⟩
    · by_cases hk : k = i
      · subst hk
        have hlt : k < W.length := by
          have := (List.getElem?_eq_some_iff.mp h1).1
          rwa [List.length_set] at this
        rw [List.getElem?_set_self hlt] at h1
        exact Or.inl ⟨0, h1⟩
      · rw [List.getElem?_set_ne (Ne.symm hk)] at h1
        exact Or.inr ⟨h1, fun hm => by rcases List.mem_cons.mp hm with e | e; exact hk e; exact h2 e⟩
  | [], _ :: _, _, _, _, hl, _ => by cases hl
  | _ :: _, [], _, _, _, hl, _ => by cases hl
/-- behind a call that wrote in place -/
theorem sp_after {A : Nat → Prop} {D : va_G} {cl : List vw_C} {W wc w1 W' : va_W} {H H1 : Heap} (hP : va_P D cl W H) (hD : va_D A W) (isC : List Nat) (hC : isC.map (fun i => W[i]?) = wc.map some) (hm : w1.map Prod.fst = wc.map Prod.fst) (hW : repl W isC w1 = W')
    (hk : ∀ q : Nat, q < H.size → ¬ fr (wc.map Prod.fst) q → H1[q]? = H[q]?) (hP1 : va_P D cl w1 H1) : va_P D cl W' H1 := by
  subst hW
  have hlen : isC.length = w1.length := by
    have h1 := congrArg List.length hC
    have h2 := congrArg List.length hm
    simp only [List.length_map] at h1 h2
    omega
  intro k q hq
  rcases repl_get isC w1 W k q hlen hq with ⟨j, hj⟩ | ⟨h1, h2⟩
  · exact hP1 j q hj
  · refine (hP k q h1).kept (hk q.1 ((hP k q h1).lt) (fun hf => ?_))
    obtain ⟨x, hx, hxq⟩ := List.mem_map.mp hf
    obtain ⟨j, hj⟩ := List.getElem?_of_mem hx
    have h3 : (isC.map (fun i => W[i]?))[j]? = some (some x) := by rw [hC, List.getElem?_map, hj]; rfl
    rw [List.getElem?_map] at h3
    cases hi : isC[j]? with
    | none => rw [hi] at h3; cases h3
    | some i =>
      rw [hi] at h3
      have h4 : W[i]? = some x := Option.some.inj h3
      have := hD.1 k i q x h1 h4 hxq.symm
      subst this
      exact h2 (List.mem_of_getElem? hi)
theorem sp_in {A : Nat → Prop} {W wc : va_W} (hD : va_D A W) (isC : List Nat) (hC : isC.map (fun i => W[i]?) = wc.map some) : ∀ q, fr (wc.map Prod.fst) q → A q := by
  intro q hf
  obtain ⟨x, hx, rfl⟩ := List.mem_map.mp hf
  obtain ⟨j, hj⟩ := List.getElem?_of_mem hx
  have h3 : (isC.map (fun i => W[i]?))[j]? = some (some x) := by rw [hC, List.getElem?_map, hj]; rfl
  rw [List.getElem?_map] at h3
  cases hi : isC[j]? with
  | none => rw [hi] at h3; cases h3
  | some i =>
    rw [hi] at h3
    exact hD.2 i x (Option.some.inj h3)
theorem sp_pick {D : va_G} {cl : List vw_C} {W wc : va_W} {H : Heap} (hP : va_P D cl W H) (isC : List Nat) (hC : isC.map (fun i => W[i]?) = wc.map some) : va_P D cl wc H := by
  intro k q hq
  have h1 : (isC.map (fun i => W[i]?))[k]? = some (some q) := by rw [hC, List.getElem?_map, hq]; rfl
  rw [List.getElem?_map] at h1
  cases hi : isC[k]? with
  | none => rw [hi] at h1; cases h1
  | some i => rw [hi] at h1; exact hP i q (Option.some.inj h1)
/-- cells that are only read stay -/
theorem sp_ro {A : Nat → Prop} {D : va_G} {cl : List vw_C} {r : va_W} {H0 H : Heap} {locs : List Loc} (hP : va_P D cl r H0) (hA : ∀ q ∈ r.map Prod.fst, ¬ A q) (hS : va_S A H0 H locs) : va_P D cl r H :=
  hP.kept fun k q hk => hS.2.1 q.1 ((hP k q hk).lt) (hA _ (List.mem_map_of_mem (List.mem_of_getElem? hk)))
theorem sp_apart {as bs : List Nat} (h : (as ++ bs).Nodup) : ∀ q ∈ bs, ¬ fr as q := fun q hb ha => (List.nodup_append.mp h).2.2 q ha q hb rfl
/-- an array of n ints tells its first n values alone -/
theorem aI_congr {D : va_G} {cl : List vw_C} {a : Nat} {cI : ClassId} {n : Nat} {f g : Nat → Int32} (h : ∀ j, j < n → f j = g j) : va_at D cl (a, aI cI n f) = va_at D cl (a, aI cI n g) := by
  funext H
  show (H[a]? = some (arrV cI n (fun j => Value.int (f j)))) = (H[a]? = some (arrV cI n (fun j => Value.int (g j))))
  have e : (Array.ofFn (n := n) fun j : Fin n => Value.int (f j.val)) = (Array.ofFn (n := n) fun j : Fin n => Value.int (g j.val)) := by
    congr 1
    funext j
    rw [h j.val j.isLt]
  unfold arrV
  rw [e]
theorem sp_congr {D : va_G} {cl : List vw_C} {W : va_W} {H : Heap} (hP : va_P D cl W H) (k : Nat) {a : Nat} {cI : ClassId} {n : Nat} {f g : Nat → Int32} (hk : W[k]? = some (a, aI cI n f)) (h : ∀ j, j < n → f j = g j) {W' : va_W} (hW : W.set k (a, aI cI n g) = W') : va_P D cl W' H := by
  subst hW
  intro i q hq
  by_cases hi : i = k
  · subst hi
    rw [List.getElem?_set_self ((List.getElem?_eq_some_iff.mp hk).1)] at hq
    cases hq
    rw [← aI_congr h]
    exact hP i _ hk
  · rw [List.getElem?_set_ne (Ne.symm hi)] at hq
    exact hP i q hq
theorem sp_out4 {x : Int32} (z0 : ¬ x = 0) (z1 : ¬ x = 1) (z2 : ¬ x = 2) (z3 : ¬ x = 3) (z4 : ¬ x = 4) : x.toInt < 0 ∨ 4 < x.toInt := by
  have e0 : x.toInt ≠ 0 := fun h => z0 (Int32.toInt_inj.mp (h.trans (by decide)))
  have e1 : x.toInt ≠ 1 := fun h => z1 (Int32.toInt_inj.mp (h.trans (by decide)))
  have e2 : x.toInt ≠ 2 := fun h => z2 (Int32.toInt_inj.mp (h.trans (by decide)))
  have e3 : x.toInt ≠ 3 := fun h => z3 (Int32.toInt_inj.mp (h.trans (by decide)))
  have e4 : x.toInt ≠ 4 := fun h => z4 (Int32.toInt_inj.mp (h.trans (by decide)))
  omega
theorem sp_out10 {x : Int32} (z0 : ¬ x = 0) (z1 : ¬ x = 1) (z2 : ¬ x = 2) (z3 : ¬ x = 3) (z4 : ¬ x = 4) (z5 : ¬ x = 5) (z6 : ¬ x = 6) (z7 : ¬ x = 7) (z8 : ¬ x = 8) (z9 : ¬ x = 9) (z10 : ¬ x = 10) : x.toInt < 0 ∨ 10 < x.toInt := by
  have e0 : x.toInt ≠ 0 := fun h => z0 (Int32.toInt_inj.mp (h.trans (by decide)))
  have e1 : x.toInt ≠ 1 := fun h => z1 (Int32.toInt_inj.mp (h.trans (by decide)))
  have e2 : x.toInt ≠ 2 := fun h => z2 (Int32.toInt_inj.mp (h.trans (by decide)))
  have e3 : x.toInt ≠ 3 := fun h => z3 (Int32.toInt_inj.mp (h.trans (by decide)))
  have e4 : x.toInt ≠ 4 := fun h => z4 (Int32.toInt_inj.mp (h.trans (by decide)))
  have e5 : x.toInt ≠ 5 := fun h => z5 (Int32.toInt_inj.mp (h.trans (by decide)))
  have e6 : x.toInt ≠ 6 := fun h => z6 (Int32.toInt_inj.mp (h.trans (by decide)))
  have e7 : x.toInt ≠ 7 := fun h => z7 (Int32.toInt_inj.mp (h.trans (by decide)))
  have e8 : x.toInt ≠ 8 := fun h => z8 (Int32.toInt_inj.mp (h.trans (by decide)))
  have e9 : x.toInt ≠ 9 := fun h => z9 (Int32.toInt_inj.mp (h.trans (by decide)))
  have e10 : x.toInt ≠ 10 := fun h => z10 (Int32.toInt_inj.mp (h.trans (by decide)))
  omega
theorem sp_out11 {x : Int32} (z0 : ¬ x = 0) (z1 : ¬ x = 1) (z2 : ¬ x = 2) (z3 : ¬ x = 3) (z4 : ¬ x = 4) (z5 : ¬ x = 5) (z6 : ¬ x = 6) (z7 : ¬ x = 7) (z8 : ¬ x = 8) (z9 : ¬ x = 9) (z10 : ¬ x = 10) (z11 : ¬ x = 11) : x.toInt < 0 ∨ 11 < x.toInt := by
  have e0 : x.toInt ≠ 0 := fun h => z0 (Int32.toInt_inj.mp (h.trans (by decide)))
  have e1 : x.toInt ≠ 1 := fun h => z1 (Int32.toInt_inj.mp (h.trans (by decide)))
  have e2 : x.toInt ≠ 2 := fun h => z2 (Int32.toInt_inj.mp (h.trans (by decide)))
  have e3 : x.toInt ≠ 3 := fun h => z3 (Int32.toInt_inj.mp (h.trans (by decide)))
  have e4 : x.toInt ≠ 4 := fun h => z4 (Int32.toInt_inj.mp (h.trans (by decide)))
  have e5 : x.toInt ≠ 5 := fun h => z5 (Int32.toInt_inj.mp (h.trans (by decide)))
  have e6 : x.toInt ≠ 6 := fun h => z6 (Int32.toInt_inj.mp (h.trans (by decide)))
  have e7 : x.toInt ≠ 7 := fun h => z7 (Int32.toInt_inj.mp (h.trans (by decide)))
  have e8 : x.toInt ≠ 8 := fun h => z8 (Int32.toInt_inj.mp (h.trans (by decide)))
  have e9 : x.toInt ≠ 9 := fun h => z9 (Int32.toInt_inj.mp (h.trans (by decide)))
  have e10 : x.toInt ≠ 10 := fun h => z10 (Int32.toInt_inj.mp (h.trans (by decide)))
  have e11 : x.toInt ≠ 11 := fun h => z11 (Int32.toInt_inj.mp (h.trans (by decide)))
  omega
theorem sp_out16 {x : Int32} (z0 : ¬ x = 0) (z1 : ¬ x = 1) (z2 : ¬ x = 2) (z3 : ¬ x = 3) (z4 : ¬ x = 4) (z5 : ¬ x = 5) (z6 : ¬ x = 6) (z7 : ¬ x = 7) (z8 : ¬ x = 8) (z9 : ¬ x = 9) (z10 : ¬ x = 10) (z11 : ¬ x = 11) (z12 : ¬ x = 12) (z13 : ¬ x = 13) (z14 : ¬ x = 14) (z15 : ¬ x = 15) (z16 : ¬ x = 16) : x.toInt < 0 ∨ 16 < x.toInt := by
  have e0 : x.toInt ≠ 0 := fun h => z0 (Int32.toInt_inj.mp (h.trans (by decide)))
  have e1 : x.toInt ≠ 1 := fun h => z1 (Int32.toInt_inj.mp (h.trans (by decide)))
  have e2 : x.toInt ≠ 2 := fun h => z2 (Int32.toInt_inj.mp (h.trans (by decide)))
  have e3 : x.toInt ≠ 3 := fun h => z3 (Int32.toInt_inj.mp (h.trans (by decide)))
  have e4 : x.toInt ≠ 4 := fun h => z4 (Int32.toInt_inj.mp (h.trans (by decide)))
  have e5 : x.toInt ≠ 5 := fun h => z5 (Int32.toInt_inj.mp (h.trans (by decide)))
  have e6 : x.toInt ≠ 6 := fun h => z6 (Int32.toInt_inj.mp (h.trans (by decide)))
  have e7 : x.toInt ≠ 7 := fun h => z7 (Int32.toInt_inj.mp (h.trans (by decide)))
  have e8 : x.toInt ≠ 8 := fun h => z8 (Int32.toInt_inj.mp (h.trans (by decide)))
  have e9 : x.toInt ≠ 9 := fun h => z9 (Int32.toInt_inj.mp (h.trans (by decide)))
  have e10 : x.toInt ≠ 10 := fun h => z10 (Int32.toInt_inj.mp (h.trans (by decide)))
  have e11 : x.toInt ≠ 11 := fun h => z11 (Int32.toInt_inj.mp (h.trans (by decide)))
  have e12 : x.toInt ≠ 12 := fun h => z12 (Int32.toInt_inj.mp (h.trans (by decide)))
  have e13 : x.toInt ≠ 13 := fun h => z13 (Int32.toInt_inj.mp (h.trans (by decide)))
  have e14 : x.toInt ≠ 14 := fun h => z14 (Int32.toInt_inj.mp (h.trans (by decide)))
  have e15 : x.toInt ≠ 15 := fun h => z15 (Int32.toInt_inj.mp (h.trans (by decide)))
  have e16 : x.toInt ≠ 16 := fun h => z16 (Int32.toInt_inj.mp (h.trans (by decide)))
  omega
section SP
variable {p : Program} {l : Launch} {e : Env} {R : Room} {s : State} {m : MethodId} {args : Array Value} {below : List Frame} {meth : Method} {c : Code} {H : Heap} {locs : List Loc} {cells slots : Nat} {Q : State → Prop}
variable {cc : ByteArray} {pc : Nat} {ls : Array Slot} {rest st0 : List Value} {D : va_G} {cI cT : ClassId} {A : Nat → Prop}
variable {y : MethodName} {bytes : ByteArray} {maxL nL n index : Nat} {ret : Option FieldType} {ws Ts : List Cond} {rm : Room} {own C : String} {b : Addr} {As : List Value} {wc rc w1 W0 W1 : va_W}
theorem sp_rV {v : Int32} (S : CallFix p m c cc nL s args Ts own) (hM : MetR l D cI cT y ws rm (.ref b :: As) wc v) (cw : CallW R s args own C index y bytes maxL ret ws rm 0 0 n) (hK : KK D cI cT s) (hP : va_P D vwCl wc H)
    {ci : Nat} {q : vw_C} {fs : List Value} (hc : vwCl[ci]? = some q) (he : wc[0]? = some (b, .inr (ci, fs))) (hC : q.1 = C) (hn : As.length = n) (hsize : ls.size = nL) (hst : st0 = As.reverse ++ .ref b :: rest) (hW : (rest.map fun v => v.category).sum ≤ 8)
    (hdg : decode cc pc = .ok (.invokevirtual index, 3)) (hf : cells ≤ R.cells ∧ slots ≤ R.slots)
    (kk : W p l e R s m args below meth c H locs cells slots Q (F0 m (pc + 3) ls (.int v :: rest))) : W p l e R s m args below meth c H locs cells slots Q (F0 m pc ls st0) := by
  subst hst hC
  exact W.callR (W.runV (rest := rest) S hM cw ⟨RoP.blind, va_recv hK.1 hP hc he, fun U hU hW => ⟨rfl, by rw [hU]; exact hP, hK.warm hW⟩⟩ rfl hn hsize rfl (lv_room hW) hdg hf) kk
theorem sp_rVl {v : Int64} (S : CallFix p m c cc nL s args Ts own) (hM : MetRl l D cI cT y ws rm (.ref b :: As) wc v) (cw : CallW R s args own C index y bytes maxL ret ws rm 0 0 n) (hK : KK D cI cT s) (hP : va_P D vwCl wc H)
    {ci : Nat} {q : vw_C} {fs : List Value} (hc : vwCl[ci]? = some q) (he : wc[0]? = some (b, .inr (ci, fs))) (hC : q.1 = C) (hn : As.length = n) (hsize : ls.size = nL) (hst : st0 = As.reverse ++ .ref b :: rest) (hW : (rest.map fun v => v.category).sum ≤ 8)
    (hdg : decode cc pc = .ok (.invokevirtual index, 3)) (hf : cells ≤ R.cells ∧ slots ≤ R.slots)
    (kk : W p l e R s m args below meth c H locs cells slots Q (F0 m (pc + 3) ls (.long v :: rest))) : W p l e R s m args below meth c H locs cells slots Q (F0 m pc ls st0) := by
  subst hst hC
  exact vp_callSl (W.runV (rest := rest) S hM cw ⟨RoP.blind, va_recv hK.1 hP hc he, fun U hU hW => ⟨rfl, by rw [hU]; exact hP, hK.warm hW⟩⟩ rfl hn hsize rfl (lv_room hW) hdg hf) (fun r hr => by subst hr; exact kk)
theorem sp_rS {v : Int32} (S : CallFix p m c cc nL s args Ts own) (hM : MetR l D cI cT y ws rm As wc v) (cw : CallB R s args own index y bytes maxL ret ws rm 0 0 n ∧ (Cond.static y).before args s = true) (hK : KK D cI cT s) (hP : va_P D vwCl wc H)
    (hn : As.length = n) (hsize : ls.size = nL) (hst : st0 = As.reverse ++ rest) (hW : (rest.map fun v => v.category).sum ≤ 8)
    (hdg : decode cc pc = .ok (.invokestatic index, 3)) (hf : cells ≤ R.cells ∧ slots ≤ R.slots)
    (kk : W p l e R s m args below meth c H locs cells slots Q (F0 m (pc + 3) ls (.int v :: rest))) : W p l e R s m args below meth c H locs cells slots Q (F0 m pc ls st0) := by
  subst hst
  exact W.callR (W.runS (rest := rest) S hM cw ⟨RoP.blind, fun U hU hW => ⟨rfl, by rw [hU]; exact hP, hK.warm hW⟩⟩ rfl hn hsize rfl (lv_room hW) hdg hf) kk
theorem sp_vV (S : CallFix p m c cc nL s args Ts own) (hM : MetV l D cI cT y ws rm (.ref b :: As) wc rc w1) (cw : CallW R s args own C index y bytes maxL ret ws rm 0 0 n) (hK : KK D cI cT s)
    (hP : va_P D vwCl W0 H) (hD : va_D A W0) (hS : va_S A s.heap H locs) (isC : List Nat) (hC : isC.map (fun i => W0[i]?) = wc.map some) (hPr : va_P D vwCl rc H) (hN : ((wc ++ rc).map Prod.fst).Nodup) (hm : w1.map Prod.fst = wc.map Prod.fst) (hW1 : repl W0 isC w1 = W1) (hm1 : W1.map Prod.fst = W0.map Prod.fst)
    {ci : Nat} {q : vw_C} {fs : List Value} (hc : vwCl[ci]? = some q) (he : wc[0]? = some (b, .inr (ci, fs))) (hcC : q.1 = C) (hn : As.length = n) (hsize : ls.size = nL) (hst : st0 = As.reverse ++ .ref b :: rest) (hW : (rest.map fun v => v.category).sum ≤ 8)
    (hdg : decode cc pc = .ok (.invokevirtual index, 3)) (hf : cells ≤ R.cells ∧ slots ≤ R.slots)
    (kk : ∀ (H1 : Heap) (locs1 : List Loc), va_P D vwCl W1 H1 → va_D A W1 → va_S A s.heap H1 locs1 → W p l e R s m args below meth c H1 locs1 cells slots Q (F0 m (pc + 3) ls rest)) : W p l e R s m args below meth c H locs cells slots Q (F0 m pc ls st0) := by
  subst hst hcC
  have hPc := sp_pick hP isC hC
  refine va_callv (va_runV (rest := rest) S hM cw ⟨MuP.blind, va_recv hK.1 hPc hc he, fun U hU hW => ⟨rfl, by rw [hU]; exact hPc, by rw [hU]; exact hPr, hK.warm hW, hN⟩⟩ rfl hn hsize rfl (lv_room hW) hdg hf) hS (fun q _ h => sp_in hD isC hC q h) (sp_in hD isC hC) (fun u t H1 locs1 ht hvm hw hB hz hk hS1 => ?_)
  rw [ht] at hB
  exact kk H1 locs1 (sp_after hP hD isC hC hm hW1 hk hB) (sp_Dsame hm1 hD) hS1
theorem sp_vI {v : Int32} (S : CallFix p m c cc nL s args Ts own) (hM : MetI l D cI cT y ws rm (.ref b :: As) wc rc w1 v) (cw : CallW R s args own C index y bytes maxL ret ws rm 0 0 n) (hK : KK D cI cT s)
    (hP : va_P D vwCl W0 H) (hD : va_D A W0) (hS : va_S A s.heap H locs) (isC : List Nat) (hC : isC.map (fun i => W0[i]?) = wc.map some) (hPr : va_P D vwCl rc H) (hN : ((wc ++ rc).map Prod.fst).Nodup) (hm : w1.map Prod.fst = wc.map Prod.fst) (hW1 : repl W0 isC w1 = W1) (hm1 : W1.map Prod.fst = W0.map Prod.fst)
    {ci : Nat} {q : vw_C} {fs : List Value} (hc : vwCl[ci]? = some q) (he : wc[0]? = some (b, .inr (ci, fs))) (hcC : q.1 = C) (hn : As.length = n) (hsize : ls.size = nL) (hst : st0 = As.reverse ++ .ref b :: rest) (hW : (rest.map fun v => v.category).sum ≤ 8)
    (hdg : decode cc pc = .ok (.invokevirtual index, 3)) (hf : cells ≤ R.cells ∧ slots ≤ R.slots)
    (kk : ∀ (H1 : Heap) (locs1 : List Loc), va_P D vwCl W1 H1 → va_D A W1 → va_S A s.heap H1 locs1 → W p l e R s m args below meth c H1 locs1 cells slots Q (F0 m (pc + 3) ls (.int v :: rest))) : W p l e R s m args below meth c H locs cells slots Q (F0 m pc ls st0) := by
  subst hst hcC
  have hPc := sp_pick hP isC hC
  refine va_calli (va_runV (rest := rest) S hM cw ⟨MuP.blind, va_recv hK.1 hPc hc he, fun U hU hW => ⟨rfl, by rw [hU]; exact hPc, by rw [hU]; exact hPr, hK.warm hW, hN⟩⟩ rfl hn hsize rfl (lv_room hW) hdg hf) hS (fun q _ h => sp_in hD isC hC q h) (sp_in hD isC hC) (fun z u t H1 locs1 ht hvm hw hB hz hk hS1 => ?_)
  rw [ht] at hB
  subst hw
  exact kk H1 locs1 (sp_after hP hD isC hC hm hW1 hk hB) (sp_Dsame hm1 hD) hS1
theorem sp_vS (S : CallFix p m c cc nL s args Ts own) (hM : MetV l D cI cT y ws rm As wc rc w1) (cw : CallB R s args own index y bytes maxL ret ws rm 0 0 n ∧ (Cond.static y).before args s = true) (hK : KK D cI cT s)
    (hP : va_P D vwCl W0 H) (hD : va_D A W0) (hS : va_S A s.heap H locs) (isC : List Nat) (hC : isC.map (fun i => W0[i]?) = wc.map some) (hPr : va_P D vwCl rc H) (hN : ((wc ++ rc).map Prod.fst).Nodup) (hm : w1.map Prod.fst = wc.map Prod.fst) (hW1 : repl W0 isC w1 = W1) (hm1 : W1.map Prod.fst = W0.map Prod.fst)
    (hn : As.length = n) (hsize : ls.size = nL) (hst : st0 = As.reverse ++ rest) (hW : (rest.map fun v => v.category).sum ≤ 8)
    (hdg : decode cc pc = .ok (.invokestatic index, 3)) (hf : cells ≤ R.cells ∧ slots ≤ R.slots)
    (kk : ∀ (H1 : Heap) (locs1 : List Loc), va_P D vwCl W1 H1 → va_D A W1 → va_S A s.heap H1 locs1 → W p l e R s m args below meth c H1 locs1 cells slots Q (F0 m (pc + 3) ls rest)) : W p l e R s m args below meth c H locs cells slots Q (F0 m pc ls st0) := by
  subst hst
  have hPc := sp_pick hP isC hC
  refine va_callv (va_runS (rest := rest) S hM cw ⟨MuP.blind, fun U hU hW => ⟨rfl, by rw [hU]; exact hPc, by rw [hU]; exact hPr, hK.warm hW, hN⟩⟩ rfl hn hsize rfl (lv_room hW) hdg hf) hS (fun q _ h => sp_in hD isC hC q h) (sp_in hD isC hC) (fun u t H1 locs1 ht hvm hw hB hz hk hS1 => ?_)
  rw [ht] at hB
  exact kk H1 locs1 (sp_after hP hD isC hC hm hW1 hk hB) (sp_Dsame hm1 hD) hS1
/-- comparisons of small naturals -/
theorem sp_lt {i j : Nat} (hi : i < 2147483648) (hj : j < 2147483648) (hx : p.tables.exec = Jvm.exec) (hb : c.code = cc) {off : Int} {tgt : Nat} (hdg : decode cc pc = .ok (.if_icmp .lt off, 3)) (ht : (pc : Int) + off = (tgt : Int))
    (kt : i < j → W p l e R s m args below meth c H locs cells slots Q (F0 m tgt ls rest)) (kf : j ≤ i → W p l e R s m args below meth c H locs cells slots Q (F0 m (pc + 3) ls rest)) : W p l e R s m args below meth c H locs cells slots Q (F0 m pc ls (.int (nI j) :: .int (nI i) :: rest)) :=
  lv_icmp_lt hx hb hdg ht (fun q => kt ((nI_ltI hi hj).mp q)) (fun q => kf (Nat.not_lt.mp fun z => q ((nI_ltI hi hj).mpr z)))
theorem sp_ge {i j : Nat} (hi : i < 2147483648) (hj : j < 2147483648) (hx : p.tables.exec = Jvm.exec) (hb : c.code = cc) {off : Int} {tgt : Nat} (hdg : decode cc pc = .ok (.if_icmp .ge off, 3)) (ht : (pc : Int) + off = (tgt : Int))
    (kt : j ≤ i → W p l e R s m args below meth c H locs cells slots Q (F0 m tgt ls rest)) (kf : i < j → W p l e R s m args below meth c H locs cells slots Q (F0 m (pc + 3) ls rest)) : W p l e R s m args below meth c H locs cells slots Q (F0 m pc ls (.int (nI j) :: .int (nI i) :: rest)) :=
  lv_icmp_ge hx hb hdg ht (fun q => kt ((nI_leI hj hi).mp q)) (fun q => kf (Nat.not_le.mp fun z => q ((nI_leI hj hi).mpr z)))
theorem sp_gt {i j : Nat} (hi : i < 2147483648) (hj : j < 2147483648) (hx : p.tables.exec = Jvm.exec) (hb : c.code = cc) {off : Int} {tgt : Nat} (hdg : decode cc pc = .ok (.if_icmp .gt off, 3)) (ht : (pc : Int) + off = (tgt : Int))
    (kt : j < i → W p l e R s m args below meth c H locs cells slots Q (F0 m tgt ls rest)) (kf : i ≤ j → W p l e R s m args below meth c H locs cells slots Q (F0 m (pc + 3) ls rest)) : W p l e R s m args below meth c H locs cells slots Q (F0 m pc ls (.int (nI j) :: .int (nI i) :: rest)) :=
  lv_icmp_gt hx hb hdg ht (fun q => kt ((nI_ltI hj hi).mp q)) (fun q => kf (Nat.not_lt.mp fun z => q ((nI_ltI hj hi).mpr z)))
theorem sp_le {i j : Nat} (hi : i < 2147483648) (hj : j < 2147483648) (hx : p.tables.exec = Jvm.exec) (hb : c.code = cc) {off : Int} {tgt : Nat} (hdg : decode cc pc = .ok (.if_icmp .le off, 3)) (ht : (pc : Int) + off = (tgt : Int))
    (kt : i ≤ j → W p l e R s m args below meth c H locs cells slots Q (F0 m tgt ls rest)) (kf : j < i → W p l e R s m args below meth c H locs cells slots Q (F0 m (pc + 3) ls rest)) : W p l e R s m args below meth c H locs cells slots Q (F0 m pc ls (.int (nI j) :: .int (nI i) :: rest)) :=
  lv_icmp_le hx hb hdg ht (fun q => kt ((nI_leI hi hj).mp q)) (fun q => kf (Nat.not_le.mp fun z => q ((nI_leI hi hj).mpr z)))
theorem sp_eq {i j : Nat} (hi : i < 2147483648) (hj : j < 2147483648) (hx : p.tables.exec = Jvm.exec) (hb : c.code = cc) {off : Int} {tgt : Nat} (hdg : decode cc pc = .ok (.if_icmp .eq off, 3)) (ht : (pc : Int) + off = (tgt : Int))
    (kt : i = j → W p l e R s m args below meth c H locs cells slots Q (F0 m tgt ls rest)) (kf : i ≠ j → W p l e R s m args below meth c H locs cells slots Q (F0 m (pc + 3) ls rest)) : W p l e R s m args below meth c H locs cells slots Q (F0 m pc ls (.int (nI j) :: .int (nI i) :: rest)) :=
  lv_icmp_eq hx hb hdg ht (fun q => kt ((nI_eq hi hj).mp q)) (fun q => kf (fun z => q ((nI_eq hi hj).mpr z)))
theorem sp_ne {i j : Nat} (hi : i < 2147483648) (hj : j < 2147483648) (hx : p.tables.exec = Jvm.exec) (hb : c.code = cc) {off : Int} {tgt : Nat} (hdg : decode cc pc = .ok (.if_icmp .ne off, 3)) (ht : (pc : Int) + off = (tgt : Int))
    (kt : i ≠ j → W p l e R s m args below meth c H locs cells slots Q (F0 m tgt ls rest)) (kf : i = j → W p l e R s m args below meth c H locs cells slots Q (F0 m (pc + 3) ls rest)) : W p l e R s m args below meth c H locs cells slots Q (F0 m pc ls (.int (nI j) :: .int (nI i) :: rest)) :=
  lv_icmp_ne hx hb hdg ht (fun q => kt (fun z => q ((nI_eq hi hj).mpr z))) (fun q => kf ((nI_eq hi hj).mp q))
theorem sp_top {x v : Int32} (h : x = v) (k : W p l e R s m args below meth c H locs cells slots Q (F0 m pc ls (.int v :: rest))) : W p l e R s m args below meth c H locs cells slots Q (F0 m pc ls (.int x :: rest)) := by rw [h]; exact k
theorem sp_topl {x v : Int64} (h : x = v) (k : W p l e R s m args below meth c H locs cells slots Q (F0 m pc ls (.long v :: rest))) : W p l e R s m args below meth c H locs cells slots Q (F0 m pc ls (.long x :: rest)) := by rw [h]; exact k
theorem sp_iald {cl : List vw_C} {tys : List (ClassId × FieldType)} {wv : va_W} {a : Nat} (hx : p.tables.exec = Jvm.exec) (hb : c.code = cc) (hK : va_K D cl tys s) (hP : va_P D cl wv H) (q0 t0 : Nat) {cA : ClassId} {N : Nat} {f : Nat → Int32} (ha : wv[q0]? = some (a, .inl (cA, N, .inl f))) (ht : tys[t0]? = some (cA, .int)) {i : Nat} (hi : i < N) (hN : N < 2147483648) (hdg : decode cc pc = .ok (.iaload, 1))
    (kk : W p l e R s m args below meth c H locs cells slots Q (F0 m (pc + 1) ls (.int (f i) :: rest))) : W p l e R s m args below meth c H locs cells slots Q (F0 m pc ls (.int (nI i) :: .ref a :: rest)) := by
  refine va_iald hx hb hK hP q0 t0 ha ht (vp_in_nI hi hN) hdg ?_
  rw [nI_clamp (Nat.lt_trans hi hN)]
  exact kk
theorem sp_iast {cl : List vw_C} {tys : List (ClassId × FieldType)} {wv : va_W} {a : Nat} {H0 : Heap} (hx : p.tables.exec = Jvm.exec) (hb : c.code = cc) (hK : va_K D cl tys s) (hP : va_P D cl wv H) (hD : va_D A wv) (hS : va_S A H0 H locs) (q0 t0 : Nat) {cA : ClassId} {N : Nat} {f : Nat → Int32} (ha : wv[q0]? = some (a, .inl (cA, N, .inl f))) (ht : tys[t0]? = some (cA, .int)) {i : Nat} {x : Int32} (hi : i < N) (hN : N < 2147483648) (hdg : decode cc pc = .ok (.iastore, 1))
    (kk : ∀ (H1 : Heap) (locs1 : List Loc), va_P D cl (wv.set q0 (a, .inl (cA, N, .inl (upd f i x)))) H1 → va_D A (wv.set q0 (a, .inl (cA, N, .inl (upd f i x)))) → va_S A H0 H1 locs1 → W p l e R s m args below meth c H1 locs1 cells slots Q (F0 m (pc + 1) ls rest)) : W p l e R s m args below meth c H locs cells slots Q (F0 m pc ls (.int x :: .int (nI i) :: .ref a :: rest)) := by
  refine va_iast hx hb hK hP hD hS q0 t0 ha ht (vp_in_nI hi hN) hdg ?_
  rw [nI_clamp (Nat.lt_trans hi hN)]
  exact kk
/-- tests of a boolean -/
theorem sp_if_eq {q : Bool} (hx : p.tables.exec = Jvm.exec) (hb : c.code = cc) {off : Int} {tgt : Nat} (hdg : decode cc pc = .ok (.ifCond .eq off, 3)) (ht : (pc : Int) + off = (tgt : Int))
    (kt : q = false → W p l e R s m args below meth c H locs cells slots Q (F0 m tgt ls rest)) (kf : q = true → W p l e R s m args below meth c H locs cells slots Q (F0 m (pc + 3) ls rest)) : W p l e R s m args below meth c H locs cells slots Q (F0 m pc ls (.int (bI q) :: rest)) :=
  lv_if_eq hx hb hdg ht (fun h => kt (by cases q; rfl; exact absurd h (by decide))) (fun h => kf (by cases q; exact absurd rfl h; rfl))
theorem sp_if_ne {q : Bool} (hx : p.tables.exec = Jvm.exec) (hb : c.code = cc) {off : Int} {tgt : Nat} (hdg : decode cc pc = .ok (.ifCond .ne off, 3)) (ht : (pc : Int) + off = (tgt : Int))
    (kt : q = true → W p l e R s m args below meth c H locs cells slots Q (F0 m tgt ls rest)) (kf : q = false → W p l e R s m args below meth c H locs cells slots Q (F0 m (pc + 3) ls rest)) : W p l e R s m args below meth c H locs cells slots Q (F0 m pc ls (.int (bI q) :: rest)) :=
  lv_if_ne hx hb hdg ht (fun h => kt (by cases q; exact absurd rfl h; rfl)) (fun h => kf (by cases q; rfl; exact absurd h (by decide)))
theorem lx_icmp_ge {x y : Int32} (hx : p.tables.exec = Jvm.exec) (hb : c.code = cc) {off : Int} {tgt : Nat} (hdg : decode cc pc = .ok (.if_icmp .ge off, 3)) (ht : (pc : Int) + off = (tgt : Int))
    (kt : ¬ x < y → W p l e R s m args below meth c H locs cells slots Q (F0 m tgt ls rest)) (kf : x < y → W p l e R s m args below meth c H locs cells slots Q (F0 m (pc + 3) ls rest)) : W p l e R s m args below meth c H locs cells slots Q (F0 m pc ls (.int y :: .int x :: rest)) :=
  lv_icmp_ge hx hb hdg ht (fun h => kt (Int32.not_lt.mpr h)) (fun h => kf (Int32.not_le.mp h))
theorem lx_icmp_le {x y : Int32} (hx : p.tables.exec = Jvm.exec) (hb : c.code = cc) {off : Int} {tgt : Nat} (hdg : decode cc pc = .ok (.if_icmp .le off, 3)) (ht : (pc : Int) + off = (tgt : Int))
    (kt : ¬ y < x → W p l e R s m args below meth c H locs cells slots Q (F0 m tgt ls rest)) (kf : y < x → W p l e R s m args below meth c H locs cells slots Q (F0 m (pc + 3) ls rest)) : W p l e R s m args below meth c H locs cells slots Q (F0 m pc ls (.int y :: .int x :: rest)) :=
  lv_icmp_le hx hb hdg ht (fun h => kt (Int32.not_lt.mpr h)) (fun h => kf (Int32.not_le.mp h))
theorem lx_if_ge {x : Int32} (hx : p.tables.exec = Jvm.exec) (hb : c.code = cc) {off : Int} {tgt : Nat} (hdg : decode cc pc = .ok (.ifCond .ge off, 3)) (ht : (pc : Int) + off = (tgt : Int))
    (kt : ¬ x < 0 → W p l e R s m args below meth c H locs cells slots Q (F0 m tgt ls rest)) (kf : x < 0 → W p l e R s m args below meth c H locs cells slots Q (F0 m (pc + 3) ls rest)) : W p l e R s m args below meth c H locs cells slots Q (F0 m pc ls (.int x :: rest)) :=
  lv_if_ge hx hb hdg ht (fun h => kt (Int32.not_lt.mpr h)) (fun h => kf (Int32.not_le.mp h))
theorem lx_if_le {x : Int32} (hx : p.tables.exec = Jvm.exec) (hb : c.code = cc) {off : Int} {tgt : Nat} (hdg : decode cc pc = .ok (.ifCond .le off, 3)) (ht : (pc : Int) + off = (tgt : Int))
    (kt : ¬ 0 < x → W p l e R s m args below meth c H locs cells slots Q (F0 m tgt ls rest)) (kf : 0 < x → W p l e R s m args below meth c H locs cells slots Q (F0 m (pc + 3) ls rest)) : W p l e R s m args below meth c H locs cells slots Q (F0 m pc ls (.int x :: rest)) :=
  lv_if_le hx hb hdg ht (fun h => kt (Int32.not_lt.mpr h)) (fun h => kf (Int32.not_le.mp h))
theorem sp_beq {q r : Bool} (hx : p.tables.exec = Jvm.exec) (hb : c.code = cc) {off : Int} {tgt : Nat} (hdg : decode cc pc = .ok (.if_icmp .eq off, 3)) (ht : (pc : Int) + off = (tgt : Int))
    (kt : q = r → W p l e R s m args below meth c H locs cells slots Q (F0 m tgt ls rest)) (kf : ¬ q = r → W p l e R s m args below meth c H locs cells slots Q (F0 m (pc + 3) ls rest)) : W p l e R s m args below meth c H locs cells slots Q (F0 m pc ls (.int (bI r) :: .int (bI q) :: rest)) :=
  lv_icmp_eq hx hb hdg ht (fun h => kt (by cases q <;> cases r <;> first | rfl | exact absurd h (by decide))) (fun h => kf (fun z => h (by rw [z])))
end SP
end
section
/-! WHAT THE CLASS'S TEAM AND TRACK DO, as functions: F the team's ints by their slots, P its rollers' places, L its runners' loads, G their ticks to go; n rollers, h runners -/
def cnt (q : Nat → Bool) : Nat → Nat
  | 0 => 0
  | i + 1 => cnt q i + if q i = true then 1 else 0
theorem cnt_le (q : Nat → Bool) : ∀ i, cnt q i ≤ i
  | 0 => Nat.le_refl 0
  | i + 1 => by have := cnt_le q i; unfold cnt; split <;> omega
def cE (F : Nat → Int32) : Bool := decide (¬ F 16 = -1)
def cPull (F : Nat → Int32) : Int32 := F 4 * F 5 * F 8 * (500 + F 11) / 5000
def cSide (F : Nat → Int32) (x : Int32) : Int32 := if x = -9999 then 3 else if x < F 10 - F 1 then 1 else if F 10 < x then 2 else 0
def cLie (F P : Nat → Int32) (n : Nat) (w : Int32) : Nat := cnt (fun k => decide (cSide F (P k) = w)) n
def cLB (F P : Nat → Int32) : Nat → Int32 × Int32
  | 0 => (-1, F 10 - F 1)
  | i + 1 => if cSide F (P i) = 1 ∧ P i < (cLB F P i).2 then (nI i, P i) else cLB F P i
/-- the ground: starts S, values U of i stretches, at x -/
def cGL (S U : Nat → Int32) (x : Int32) : Nat → Int32 × Int32
  | 0 => (-1, 0)
  | i + 1 => if ¬ x < S i ∧ (cGL S U x i).1 < S i then (S i, U i) else cGL S U x i
def cGr (S U : Nat → Int32) (ns : Nat) (x : Int32) : Int32 := (cGL S U (imax x 0) ns).2
def cBare (w gs gf : Int32) : Int32 := imax 0 (w * (20 + 10 * gs + 4 * gf) / 10)
def cDr (w gs gf u : Int32) : Int32 := imax (cBare w gs gf - imin u 4 * (w * (6 - gf / 2) / 10)) (w / 10)
def cDrag (F P : Nat → Int32) (n : Nat) (gs gf : Int32) : Int32 := if nI (cLie F P n 0) < 2 then 2 * cDr (F 2) gs gf (nI (cLie F P n 0)) else cDr (F 2) gs gf (nI (cLie F P n 0))
def cWay (F : Nat → Int32) (a b : Int32) : Int32 := if 0 < F 2 then imin 12 (imax 0 ((a - b) * 4 / F 2)) else 0
def cBr (b x : Int32) : Int32 := imin 1000 (imax 0 (b - x * x / 2 + 18))
def cRope (r : Int32) : Int32 := imax 10 (r - r / 10)
def cMoveP (F P : Nat → Int32) (i : Nat) : Nat → Int32 := fun k => if k < i ∧ cSide F (P k) = 0 then P k + F 15 / 2 else P k
/-- a runner, of those that are left: r -/
def cRun (F : Nat → Int32) (n r : Nat) (X : (Nat → Int32) × (Nat → Int32) × (Nat → Int32)) : (Nat → Int32) × (Nat → Int32) × (Nat → Int32) :=
  if X.2.1 r = -1 then
    if ¬ (cLB F X.1 n).1 < 0 ∧ (cLB F X.1 n).1 < 8 then (upd X.1 (cLB F X.1 n).1.toNatClampNeg (-9999), upd X.2.1 r (cLB F X.1 n).1, upd X.2.2 r ((F 10 + F 9 - X.1 (cLB F X.1 n).1.toNatClampNeg) / 12 + 2)) else X
  else if ¬ 0 < X.2.2 r - 1 ∧ ¬ X.2.1 r < 0 ∧ X.2.1 r < 8 then (upd X.1 (X.2.1 r).toNatClampNeg (F 10 + F 9), upd X.2.1 r (-1), upd X.2.2 r (X.2.2 r - 1)) else (X.1, X.2.1, upd X.2.2 r (X.2.2 r - 1))
def cSend (F : Nat → Int32) (n : Nat) (X : (Nat → Int32) × (Nat → Int32) × (Nat → Int32)) : Nat → (Nat → Int32) × (Nat → Int32) × (Nat → Int32)
  | 0 => X
  | r + 1 => cRun F n r (cSend F n X r)
def cAhead (F E : Nat → Int32) : Bool :=
  if ¬ cE F = cE E then cE F
  else if cE F = true ∧ ¬ F 16 = E 16 then decide (F 16 < E 16)
  else if cE F = false ∧ ¬ F 10 = E 10 then decide (E 10 < F 10)
  else decide (F 0 < E 0)
def cStartP (F : Nat → Int32) (P : Nat → Int32) (n i : Nat) : Nat → Int32 := fun k => if k < i then 0 - nI (k + 1) * F 1 / nI (n + 1) else P k
def cStartF (F : Nat → Int32) : Nat → Int32 := upd (upd (upd (upd (upd (upd (upd F 10 0) 11 1000) 12 (F 7)) 13 0) 14 0) 15 0) 16 (-1)
def cFill (f : Nat → Int32) (v : Int32) (i : Nat) : Nat → Int32 := fun k => if k < i then v else f k
theorem upd_cFill (f : Nat → Int32) (v : Int32) (i : Nat) : upd (cFill f v i) i v = cFill f v (i + 1) := by
  funext k
  simp only [upd, cFill]
  by_cases h : k = i
  · subst h; simp
  · rw [if_neg h]
    by_cases h2 : k < i
    · rw [if_pos h2, if_pos (by omega)]
    · rw [if_neg h2, if_neg (by omega)]
def cCopy (f g : Nat → Int32) (i : Nat) : Nat → Int32 := fun k => if k < i then f k else g k
theorem upd_cCopy (f g : Nat → Int32) (i : Nat) : upd (cCopy f g i) i (f i) = cCopy f g (i + 1) := by
  funext k
  simp only [upd, cCopy]
  by_cases h : k = i
  · subst h; simp
  · rw [if_neg h]
    by_cases h2 : k < i
    · rw [if_pos h2, if_pos (by omega)]
    · rw [if_neg h2, if_neg (by omega)]
/-- what team() tells, by its number -/
def cFact (F P : Nat → Int32) (n : Nat) (w : Int32) : Int32 :=
  if w = 0 then F 10 else if w = 1 then F 11 else if w = 2 then F 12 else if w = 3 then F 13 else if w = 4 then nI (cLie F P n 0) else if w = 5 then nI (cLie F P n 1) else if w = 6 then nI (cLie F P n 2) else if w = 7 then nI (cLie F P n 3) else if w = 8 then F 16 else if w = 9 then F 8 else if w = 10 then F 9 else F 15

theorem upd_cStartP (F P : Nat → Int32) (n i : Nat) : upd (cStartP F P n i) i (0 - nI (i + 1) * F 1 / nI (n + 1)) = cStartP F P n (i + 1) := by
  funext k
  simp only [upd, cStartP]
  by_cases h : k = i
  · subst h; simp
  · rw [if_neg h]
    by_cases h2 : k < i
    · rw [if_pos h2, if_pos (by omega)]
    · rw [if_neg h2, if_neg (by omega)]
theorem cMoveP_i (F P : Nat → Int32) (i : Nat) : cMoveP F P i i = P i := by simp [cMoveP]
theorem upd_cMoveP {F P : Nat → Int32} {i : Nat} (c : cSide F (P i) = 0) : upd (cMoveP F P i) i (P i + F 15 / 2) = cMoveP F P (i + 1) := by
  funext k
  simp only [upd, cMoveP]
  by_cases h : k = i
  · subst h; rw [if_pos rfl, if_pos ⟨by omega, c⟩]
  · rw [if_neg h]
    by_cases h2 : k < i ∧ cSide F (P k) = 0
    · rw [if_pos h2, if_pos ⟨by omega, h2.2⟩]
    · rw [if_neg h2, if_neg (fun q => h2 ⟨by omega, q.2⟩)]
theorem cMoveP_no {F P : Nat → Int32} {i : Nat} (c : ¬ cSide F (P i) = 0) : cMoveP F P i = cMoveP F P (i + 1) := by
  funext k
  simp only [cMoveP]
  by_cases h2 : k < i ∧ cSide F (P k) = 0
  · rw [if_pos h2, if_pos ⟨by omega, h2.2⟩]
  · rw [if_neg h2, if_neg (fun q => h2 ⟨by
      rcases Nat.lt_or_ge k i with z | z
      · exact z
      · have : k = i := by omega
        subst this
        exact absurd q.2 c, q.2⟩)]
def dgL (f : Nat → Int32) (d : Int64) : Nat → Int64
  | 0 => d
  | i + 1 => dgL f d i * 31 + Int32.toInt64 (f i)
def cAdd (F P : Nat → Int32) (n : Nat) (d : Int64) : Int64 := dgL P (dgL (fun i => cFact F P n (nI i)) d 12) n
/-- a tick of a team -/
abbrev TV : Type := (Nat → Int32) × (Nat → Int32) × (Nat → Int32) × (Nat → Int32)
def cSnapF (F : Nat → Int32) : Nat → Int32 := upd (upd (upd F 12 (cRope (F 12))) 13 15) 14 (F 14 + 1)
def cSnap (F : Nat → Int32) : Nat → Int32 := if F 13 = 0 ∧ F 12 < cPull F then cSnapF F else F
def cT3 (n : Nat) (S U V : Nat → Int32) (ns : Nat) (pull : Int32) (E P : Nat → Int32) : Nat → Int32 := upd E 15 (cWay E pull (cDrag E P n (cGr S U ns (E 10)) (cGr S V ns (E 10))))
def cT4 (F : Nat → Int32) : Nat → Int32 := upd F 10 (F 10 + F 15)
def cT5 (x : Int32) (F : Nat → Int32) : Nat → Int32 := upd F 11 (cBr (F 11) x)
def cT6 (len tk : Int32) (F : Nat → Int32) : Nat → Int32 := if F 10 < len then F else upd F 16 tk
def cKnot (E : Nat → Int32) : Nat → Int32 := cT5 0 (upd (upd E 13 (E 13 - 1)) 15 0)
def cTickA (n nh : Nat) (len tk : Int32) (Y P L G : Nat → Int32) : TV :=
  (cT6 len tk (cT5 (cT4 Y 8) (cT4 Y)), cSend (cT4 Y) n (cMoveP Y P n, L, G) nh)
def cTick (n nh : Nat) (S U V : Nat → Int32) (ns : Nat) (len tk : Int32) (T : TV) : TV :=
  if cE T.1 = true then T
  else if 0 < cSnap T.1 13 then (cKnot (cSnap T.1), T.2)
  else cTickA n nh len tk (cT3 n S U V ns (cPull T.1) (cSnap T.1) T.2.1) T.2.1 T.2.2.1 T.2.2.2
/-- the first place below i that holds x, or i -/
def fnd (S : Nat → Int32) (x : Int32) : Nat → Nat
  | 0 => 0
  | i + 1 => if fnd S x i < i then fnd S x i else if S i = x then i else i + 1
theorem fnd_le (S : Nat → Int32) (x : Int32) : ∀ i, fnd S x i ≤ i
  | 0 => Nat.le_refl 0
  | i + 1 => by have := fnd_le S x i; unfold fnd; split <;> (try split) <;> omega
theorem fnd_no (S : Nat → Int32) (x : Int32) : ∀ i k, k < fnd S x i → ¬ S k = x
  | 0, k, h => absurd h (Nat.not_lt_zero k)
  | i + 1, k, h => by
    have ih := fnd_no S x i
    have hl := fnd_le S x i
    unfold fnd at h
    split at h
    · exact ih k h
    · split at h
      · exact ih k (by omega)
      · rcases Nat.lt_or_ge k i with z | z
        · exact ih k (by omega)
        · have : k = i := by omega
          subst this
          assumption
theorem fnd_yes (S : Nat → Int32) (x : Int32) : ∀ i, fnd S x i < i → S (fnd S x i) = x
  | 0, h => absurd h (Nat.not_lt_zero _)
  | i + 1, h => by
    have ih := fnd_yes S x i
    unfold fnd at h ⊢
    split
    · exact ih (by assumption)
    · split
      · assumption
      · rename_i h1 h2
        rw [if_neg h1, if_neg h2] at h
        omega
theorem fnd_eq {S : Nat → Int32} {x : Int32} {n i : Nat} (h1 : i ≤ n) (h2 : ∀ j, j < i → ¬ S j = x) (h3 : i = n ∨ S i = x) : i = fnd S x n := by
  have a := fnd_le S x n
  have b := fnd_no S x n
  have c := fnd_yes S x n
  rcases Nat.lt_trichotomy i (fnd S x n) with z | z | z
  · rcases h3 with e | e
    · omega
    · exact absurd e (b i z)
  · exact z
  · exact absurd (c (by omega)) (h2 _ z)
def cPut (S : Nat → Int32) (ns : Nat) (x : Int32) (f : Nat → Int32) (v : Int32) : Nat → Int32 := if fnd S x ns < 12 then upd f (fnd S x ns) v else f
def cPutK (S : Nat → Int32) (ns : Nat) (x : Int32) (K : Nat → Int32) : Nat → Int32 := if fnd S x ns < 12 ∧ fnd S x ns = ns then upd K 3 (nI (ns + 1)) else K
end
section
abbrev rmX0_sideOf : Room := { frames := 0, cells := 0, slots := 0, locals := 0 }
set_option maxHeartbeats 4000000 in
set_option maxRecDepth 100000 in
/-- where a place lies -/
theorem mX0_sideOf (l : Launch) (D : va_G) (cI cT : ClassId) (a0 a1 a2 a3 : Nat) (F : Nat → Int32) (x : Int32) : MetR l D cI cT yX0_sideOf wsX0_sideOf rmX0_sideOf [.ref a0, .int x] [(a0, oT F a1 a2 a3)] (cSide F x) := by
  refine Met.ofW (cc := cX0_sideOf) (maxL := 2) (ret := (some .int)) (by decide) rfl ?_
  intro p e s m args below meth c s₁ B hml hv
  obtain ⟨hargs, hP, hK⟩ := hv
  have hx := B.exec
  have hb := B.bytes
  have hr := B.returns
  have hts := atoms_spec (ws := wsX0_sideOf) B.pre
  have hown : s.vm.findClass RX0 = some m.cls := findClass_of_methodNamed B.named
  have hlocks := B.notSynchronized
  have hiX0 : ∀ w ∈ u_ws RX0 TX0 20, w ∈ wsX0_sideOf := by decide +kernel
  have he : entryFrame m args 2 = F0 m 0 ((lg_sl [.ref a0, .int x] ++ List.replicate (2 - (lg_sl [.ref a0, .int x]).length) Slot.unset).toArray) [] := by rw [hargs]; exact lg_entry_eq m _ _
  rw [he]
  change W p l e rmX0_sideOf s m args below meth c s.heap [] 0 0 (MQ below (QcRead (cSide F x)) args s 0 0 (fun _ => False)) _
  obtain ⟨Q, hQ⟩ : ∃ Q, Q = MQ below (QcRead (cSide F x)) args s 0 0 (fun _ => False) := ⟨_, rfl⟩
  rw [← hQ]
  have hl := lv_entry [.ref a0, .int x] (n := 2) (Nat.le_of_ble_eq_true rfl)
  generalize (lg_sl [.ref a0, .int x] ++ List.replicate (2 - (lg_sl [.ref a0, .int x]).length) Slot.unset).toArray = ls at hl ⊢
  have hl : lv_has ls 2 [(0, .ref a0), (1, .int x)] := hl
  refine lv_iload_n hx hb dX0_sideOf_0 rfl (lv_at hl 1 rfl) ?_
  refine lv_sipush (v := (-9999)) hx hb dX0_sideOf_1 (by decide) ?_
  refine lv_icmp_ne (tgt := 9) hx hb dX0_sideOf_4 (by decide) (fun c4 => ?_) (fun c4 => ?_)
  · skip
    refine lv_iload_n hx hb dX0_sideOf_9 rfl (lv_at hl 1 rfl) ?_
    refine lv_aload_n hx hb dX0_sideOf_10 rfl (lv_at hl 0 rfl) ?_
    refine va_get (D := D) (ci := 0) (v := .int (F 10)) (C := RX0) (T := TX0) (N := 20) hx hb hts hiX0 hown hK.1 hP 0 rfl rfl 10 (by decide) (hts (.fieldLink RX0 53 "SledgeRace$Team" "front" "I") (by decide +kernel)) (fun _ h9 => h9) rfl dX0_sideOf_11 ?_
    refine lv_aload_n hx hb dX0_sideOf_14 rfl (lv_at hl 0 rfl) ?_
    refine va_get (D := D) (ci := 0) (v := .int (F 1)) (C := RX0) (T := TX0) (N := 20) hx hb hts hiX0 hown hK.1 hP 0 rfl rfl 1 (by decide) (hts (.fieldLink RX0 13 "SledgeRace$Team" "length" "I") (by decide +kernel)) (fun _ h9 => h9) rfl dX0_sideOf_15 ?_
    refine lv_isub hx hb dX0_sideOf_18 ?_
    refine lx_icmp_ge (tgt := 24) hx hb dX0_sideOf_19 (by decide) (fun c19 => ?_) (fun c19 => ?_)
    · skip
      refine lv_iload_n hx hb dX0_sideOf_24 rfl (lv_at hl 1 rfl) ?_
      refine lv_aload_n hx hb dX0_sideOf_25 rfl (lv_at hl 0 rfl) ?_
      refine va_get (D := D) (ci := 0) (v := .int (F 10)) (C := RX0) (T := TX0) (N := 20) hx hb hts hiX0 hown hK.1 hP 0 rfl rfl 10 (by decide) (hts (.fieldLink RX0 53 "SledgeRace$Team" "front" "I") (by decide +kernel)) (fun _ h9 => h9) rfl dX0_sideOf_26 ?_
      refine lx_icmp_le (tgt := 36) hx hb dX0_sideOf_29 (by decide) (fun c29 => ?_) (fun c29 => ?_)
      · skip
        refine lv_iconst (v := 0) hx hb dX0_sideOf_36 (by decide) ?_
        refine sp_top (show 0 = cSide F x from by simp only [cSide, if_neg c4, if_neg c19, if_neg c29]) ?_
        subst hQ
        exact W.iret hx hb hr (fun t ht _ => ⟨rfl, ht⟩) (fun _ h => nomatch h) dX0_sideOf_37
      · skip
        refine lv_iconst (v := 2) hx hb dX0_sideOf_32 (by decide) ?_
        refine lv_goto (tgt := 37) hx hb dX0_sideOf_33 (by decide) ?_
        refine sp_top (show 2 = cSide F x from by simp only [cSide, if_neg c4, if_neg c19, if_pos c29]) ?_
        subst hQ
        exact W.iret hx hb hr (fun t ht _ => ⟨rfl, ht⟩) (fun _ h => nomatch h) dX0_sideOf_37
    · skip
      refine lv_iconst (v := 1) hx hb dX0_sideOf_22 (by decide) ?_
      refine sp_top (show 1 = cSide F x from by simp only [cSide, if_neg c4, if_pos c19]) ?_
      subst hQ
      exact W.iret hx hb hr (fun t ht _ => ⟨rfl, ht⟩) (fun _ h => nomatch h) dX0_sideOf_23
  · skip
    refine lv_iconst (v := 3) hx hb dX0_sideOf_7 (by decide) ?_
    refine sp_top (show 3 = cSide F x from by simp only [cSide, if_pos c4]) ?_
    subst hQ
    exact W.iret hx hb hr (fun t ht _ => ⟨rfl, ht⟩) (fun _ h => nomatch h) dX0_sideOf_8

abbrev rmX0_isAtEnd : Room := { frames := 0, cells := 0, slots := 0, locals := 0 }
set_option maxHeartbeats 4000000 in
set_option maxRecDepth 100000 in
/-- has it come to the end -/
theorem mX0_isAtEnd (l : Launch) (D : va_G) (cI cT : ClassId) (a0 a1 a2 a3 : Nat) (F : Nat → Int32) : MetR l D cI cT yX0_isAtEnd wsX0_isAtEnd rmX0_isAtEnd [.ref a0] [(a0, oT F a1 a2 a3)] (bI (cE F)) := by
  refine Met.ofW (cc := cX0_isAtEnd) (maxL := 1) (ret := (some .boolean)) (by decide) rfl ?_
  intro p e s m args below meth c s₁ B hml hv
  obtain ⟨hargs, hP, hK⟩ := hv
  have hx := B.exec
  have hb := B.bytes
  have hr := B.returns
  have hts := atoms_spec (ws := wsX0_isAtEnd) B.pre
  have hown : s.vm.findClass RX0 = some m.cls := findClass_of_methodNamed B.named
  have hlocks := B.notSynchronized
  have hiX0 : ∀ w ∈ u_ws RX0 TX0 20, w ∈ wsX0_isAtEnd := by decide +kernel
  have he : entryFrame m args 1 = F0 m 0 ((lg_sl [.ref a0] ++ List.replicate (1 - (lg_sl [.ref a0]).length) Slot.unset).toArray) [] := by rw [hargs]; exact lg_entry_eq m _ _
  rw [he]
  change W p l e rmX0_isAtEnd s m args below meth c s.heap [] 0 0 (MQ below (QcRead (bI (cE F))) args s 0 0 (fun _ => False)) _
  obtain ⟨Q, hQ⟩ : ∃ Q, Q = MQ below (QcRead (bI (cE F))) args s 0 0 (fun _ => False) := ⟨_, rfl⟩
  rw [← hQ]
  have hl := lv_entry [.ref a0] (n := 1) (Nat.le_of_ble_eq_true rfl)
  generalize (lg_sl [.ref a0] ++ List.replicate (1 - (lg_sl [.ref a0]).length) Slot.unset).toArray = ls at hl ⊢
  have hl : lv_has ls 1 [(0, .ref a0)] := hl
  refine lv_aload_n hx hb dX0_isAtEnd_0 rfl (lv_at hl 0 rfl) ?_
  refine va_get (D := D) (ci := 0) (v := .int (F 16)) (C := RX0) (T := TX0) (N := 20) hx hb hts hiX0 hown hK.1 hP 0 rfl rfl 16 (by decide) (hts (.fieldLink RX0 71 "SledgeRace$Team" "endTick" "I") (by decide +kernel)) (fun _ h9 => h9) rfl dX0_isAtEnd_1 ?_
  refine lv_iconst (v := (-1)) hx hb dX0_isAtEnd_4 (by decide) ?_
  refine lv_icmp_eq (tgt := 12) hx hb dX0_isAtEnd_5 (by decide) (fun c5 => ?_) (fun c5 => ?_)
  · skip
    refine lv_iconst (v := 0) hx hb dX0_isAtEnd_12 (by decide) ?_
    refine sp_top (show 0 = bI (cE F) from by simp [bI, cE, c5]) ?_
    subst hQ
    exact W.zret hx hb hr (bI_nar _) (fun t ht _ => ⟨rfl, ht⟩) (fun _ h => nomatch h) dX0_isAtEnd_13
  · skip
    refine lv_iconst (v := 1) hx hb dX0_isAtEnd_8 (by decide) ?_
    refine lv_goto (tgt := 13) hx hb dX0_isAtEnd_9 (by decide) ?_
    refine sp_top (show 1 = bI (cE F) from by simp [bI, cE, c5]) ?_
    subst hQ
    exact W.zret hx hb hr (bI_nar _) (fun t ht _ => ⟨rfl, ht⟩) (fun _ h => nomatch h) dX0_isAtEnd_13

abbrev rmX0_pull : Room := { frames := 0, cells := 0, slots := 0, locals := 0 }
set_option maxHeartbeats 4000000 in
set_option maxRecDepth 100000 in
/-- the pull -/
theorem mX0_pull (l : Launch) (D : va_G) (cI cT : ClassId) (a0 a1 a2 a3 : Nat) (F : Nat → Int32) : MetR l D cI cT yX0_pull wsX0_pull rmX0_pull [.ref a0] [(a0, oT F a1 a2 a3)] (cPull F) := by
  refine Met.ofW (cc := cX0_pull) (maxL := 1) (ret := (some .int)) (by decide) rfl ?_
  intro p e s m args below meth c s₁ B hml hv
  obtain ⟨hargs, hP, hK⟩ := hv
  have hx := B.exec
  have hb := B.bytes
  have hr := B.returns
  have hts := atoms_spec (ws := wsX0_pull) B.pre
  have hown : s.vm.findClass RX0 = some m.cls := findClass_of_methodNamed B.named
  have hlocks := B.notSynchronized
  have hiX0 : ∀ w ∈ u_ws RX0 TX0 20, w ∈ wsX0_pull := by decide +kernel
  have he : entryFrame m args 1 = F0 m 0 ((lg_sl [.ref a0] ++ List.replicate (1 - (lg_sl [.ref a0]).length) Slot.unset).toArray) [] := by rw [hargs]; exact lg_entry_eq m _ _
  rw [he]
  change W p l e rmX0_pull s m args below meth c s.heap [] 0 0 (MQ below (QcRead (cPull F)) args s 0 0 (fun _ => False)) _
  obtain ⟨Q, hQ⟩ : ∃ Q, Q = MQ below (QcRead (cPull F)) args s 0 0 (fun _ => False) := ⟨_, rfl⟩
  rw [← hQ]
  have hl := lv_entry [.ref a0] (n := 1) (Nat.le_of_ble_eq_true rfl)
  generalize (lg_sl [.ref a0] ++ List.replicate (1 - (lg_sl [.ref a0]).length) Slot.unset).toArray = ls at hl ⊢
  have hl : lv_has ls 1 [(0, .ref a0)] := hl
  refine lv_aload_n hx hb dX0_pull_0 rfl (lv_at hl 0 rfl) ?_
  refine va_get (D := D) (ci := 0) (v := .int (F 4)) (C := RX0) (T := TX0) (N := 20) hx hb hts hiX0 hown hK.1 hP 0 rfl rfl 4 (by decide) (hts (.fieldLink RX0 22 "SledgeRace$Team" "pullers" "I") (by decide +kernel)) (fun _ h9 => h9) rfl dX0_pull_1 ?_
  refine lv_aload_n hx hb dX0_pull_4 rfl (lv_at hl 0 rfl) ?_
  refine va_get (D := D) (ci := 0) (v := .int (F 5)) (C := RX0) (T := TX0) (N := 20) hx hb hts hiX0 hown hK.1 hP 0 rfl rfl 5 (by decide) (hts (.fieldLink RX0 25 "SledgeRace$Team" "strength" "I") (by decide +kernel)) (fun _ h9 => h9) rfl dX0_pull_5 ?_
  refine lv_imul hx hb dX0_pull_8 ?_
  refine lv_aload_n hx hb dX0_pull_9 rfl (lv_at hl 0 rfl) ?_
  refine va_get (D := D) (ci := 0) (v := .int (F 8)) (C := RX0) (T := TX0) (N := 20) hx hb hts hiX0 hown hK.1 hP 0 rfl rfl 8 (by decide) (hts (.fieldLink RX0 34 "SledgeRace$Team" "effort" "I") (by decide +kernel)) (fun _ h9 => h9) rfl dX0_pull_10 ?_
  refine lv_imul hx hb dX0_pull_13 ?_
  refine lv_sipush (v := 500) hx hb dX0_pull_14 (by decide) ?_
  refine lv_aload_n hx hb dX0_pull_17 rfl (lv_at hl 0 rfl) ?_
  refine va_get (D := D) (ci := 0) (v := .int (F 11)) (C := RX0) (T := TX0) (N := 20) hx hb hts hiX0 hown hK.1 hP 0 rfl rfl 11 (by decide) (hts (.fieldLink RX0 56 "SledgeRace$Team" "breath" "I") (by decide +kernel)) (fun _ h9 => h9) rfl dX0_pull_18 ?_
  refine lv_iadd hx hb dX0_pull_21 ?_
  refine lv_imul hx hb dX0_pull_22 ?_
  refine lv_sipush (v := 5000) hx hb dX0_pull_23 (by decide) ?_
  refine lv_idiv hx hb dX0_pull_26 (by decide) ?_
  subst hQ
  exact W.iret hx hb hr (fun t ht _ => ⟨rfl, ht⟩) (fun _ h => nomatch h) dX0_pull_27

abbrev rmX0_wayWith : Room := { frames := 1, cells := 0, slots := 0, locals := 14 }
set_option maxHeartbeats 4000000 in
set_option maxRecDepth 100000 in
/-- the way -/
theorem mX0_wayWith (l : Launch) (D : va_G) (cI cT : ClassId) (a0 a1 a2 a3 : Nat) (F : Nat → Int32) (a b : Int32) : MetR l D cI cT yX0_wayWith wsX0_wayWith rmX0_wayWith [.ref a0, .int a, .int b] [(a0, oT F a1 a2 a3)] (cWay F a b) := by
  refine Met.ofW (cc := cX0_wayWith) (maxL := 3) (ret := (some .int)) (by decide) rfl ?_
  intro p e s m args below meth c s₁ B hml hv
  obtain ⟨hargs, hP, hK⟩ := hv
  have hx := B.exec
  have hb := B.bytes
  have hr := B.returns
  have hts := atoms_spec (ws := wsX0_wayWith) B.pre
  have hown : s.vm.findClass RX0 = some m.cls := findClass_of_methodNamed B.named
  have hlocks := B.notSynchronized
  have hiX0 : ∀ w ∈ u_ws RX0 TX0 20, w ∈ wsX0_wayWith := by decide +kernel
  have he : entryFrame m args 3 = F0 m 0 ((lg_sl [.ref a0, .int a, .int b] ++ List.replicate (3 - (lg_sl [.ref a0, .int a, .int b]).length) Slot.unset).toArray) [] := by rw [hargs]; exact lg_entry_eq m _ _
  rw [he]
  change W p l e rmX0_wayWith s m args below meth c s.heap [] 0 0 (MQ below (QcRead (cWay F a b)) args s 0 0 (fun _ => False)) _
  obtain ⟨Q, hQ⟩ : ∃ Q, Q = MQ below (QcRead (cWay F a b)) args s 0 0 (fun _ => False) := ⟨_, rfl⟩
  rw [← hQ]
  have hl := lv_entry [.ref a0, .int a, .int b] (n := 3) (Nat.le_of_ble_eq_true rfl)
  generalize (lg_sl [.ref a0, .int a, .int b] ++ List.replicate (3 - (lg_sl [.ref a0, .int a, .int b]).length) Slot.unset).toArray = ls at hl ⊢
  have hl : lv_has ls 3 [(0, .ref a0), (1, .int a), (2, .int b)] := hl
  refine lv_aload_n hx hb dX0_wayWith_0 rfl (lv_at hl 0 rfl) ?_
  refine va_get (D := D) (ci := 0) (v := .int (F 2)) (C := RX0) (T := TX0) (N := 20) hx hb hts hiX0 hown hK.1 hP 0 rfl rfl 2 (by decide) (hts (.fieldLink RX0 16 "SledgeRace$Team" "weight" "I") (by decide +kernel)) (fun _ h9 => h9) rfl dX0_wayWith_1 ?_
  refine lv_if_gt (tgt := 9) hx hb dX0_wayWith_4 (by decide) (fun c4 => ?_) (fun c4 => ?_)
  · skip
    refine lv_bipush (v := 12) hx hb dX0_wayWith_9 (by decide) ?_
    refine lv_iconst (v := 0) hx hb dX0_wayWith_11 (by decide) ?_
    refine lv_iload_n hx hb dX0_wayWith_12 rfl (lv_at hl 1 rfl) ?_
    refine lv_iload_n hx hb dX0_wayWith_13 rfl (lv_at hl 2 rfl) ?_
    refine lv_isub hx hb dX0_wayWith_14 ?_
    refine lv_iconst (v := 4) hx hb dX0_wayWith_15 (by decide) ?_
    refine lv_imul hx hb dX0_wayWith_16 ?_
    refine lv_aload_n hx hb dX0_wayWith_17 rfl (lv_at hl 0 rfl) ?_
    refine va_get (D := D) (ci := 0) (v := .int (F 2)) (C := RX0) (T := TX0) (N := 20) hx hb hts hiX0 hown hK.1 hP 0 rfl rfl 2 (by decide) (hts (.fieldLink RX0 16 "SledgeRace$Team" "weight" "I") (by decide +kernel)) (fun _ h9 => h9) rfl dX0_wayWith_18 ?_
    refine lv_idiv hx hb dX0_wayWith_21 (fun h => by rw [h] at c4; exact absurd c4 (by decide)) ?_
    refine va_mmax hx hb (hml.trans hl.1.symm) hown (hts (.methodLink RX0 110 Lib.Math.max.name) (by decide +kernel)) (hts (.static Lib.Math.max.name) (by decide +kernel)) (hts (.initialized "java/lang/Math") (by decide +kernel)) (hts (.code Lib.Math.max.name Lib.Math.max.code 2 (some .int)) (by decide +kernel)) (Nat.le_of_ble_eq_true rfl) (Nat.le_of_ble_eq_true rfl) (Nat.zero_le _) (Nat.zero_le _) dX0_wayWith_22 ?_
    change W _ _ _ _ _ _ _ _ _ _ _ _ _ _ _ (F0 m 25 ls (.int (imax 0 (((a - b) * 4) / (F 2))) :: _))
    refine va_mmin hx hb (hml.trans hl.1.symm) hown (hts (.methodLink RX0 123 Lib.Math.min.name) (by decide +kernel)) (hts (.static Lib.Math.min.name) (by decide +kernel)) (hts (.initialized "java/lang/Math") (by decide +kernel)) (hts (.code Lib.Math.min.name Lib.Math.min.code 2 (some .int)) (by decide +kernel)) (Nat.le_of_ble_eq_true rfl) (Nat.le_of_ble_eq_true rfl) (Nat.zero_le _) (Nat.zero_le _) dX0_wayWith_25 ?_
    change W _ _ _ _ _ _ _ _ _ _ _ _ _ _ _ (F0 m 28 ls (.int (imin 12 (imax 0 (((a - b) * 4) / (F 2)))) :: _))
    refine sp_top (show imin 12 (imax 0 (((a - b) * 4) / (F 2))) = cWay F a b from by simp only [cWay, if_pos c4]) ?_
    subst hQ
    exact W.iret hx hb hr (fun t ht _ => ⟨rfl, ht⟩) (fun _ h => nomatch h) dX0_wayWith_28
  · skip
    refine lv_iconst (v := 0) hx hb dX0_wayWith_7 (by decide) ?_
    refine sp_top (show 0 = cWay F a b from by simp only [cWay, if_neg c4]) ?_
    subst hQ
    exact W.iret hx hb hr (fun t ht _ => ⟨rfl, ht⟩) (fun _ h => nomatch h) dX0_wayWith_8

abbrev rmX0_rollersLying : Room := { frames := 1, cells := 0, slots := 0, locals := 21 }
set_option maxHeartbeats 4000000 in
set_option maxRecDepth 100000 in
/-- how many rollers lie there -/
theorem mX0_rollersLying (l : Launch) (D : va_G) (cI cT : ClassId) (a0 a1 a2 a3 : Nat) (F P : Nat → Int32) (w : Int32) (n : Nat) (hn : n ≤ 8) (h3 : F 3 = nI n) : MetR l D cI cT yX0_rollersLying wsX0_rollersLying rmX0_rollersLying [.ref a0, .int w] [(a0, oT F a1 a2 a3), (a1, aI cI 8 P)] (nI (cLie F P n w)) := by
  refine Met.ofW (cc := cX0_rollersLying) (maxL := 4) (ret := (some .int)) (by decide) rfl ?_
  intro p e s m args below meth c s₁ B hml hv
  obtain ⟨hargs, hP, hK⟩ := hv
  have hx := B.exec
  have hb := B.bytes
  have hr := B.returns
  have hts := atoms_spec (ws := wsX0_rollersLying) B.pre
  have hown : s.vm.findClass RX0 = some m.cls := findClass_of_methodNamed B.named
  have hlocks := B.notSynchronized
  have hiX0 : ∀ w ∈ u_ws RX0 TX0 20, w ∈ wsX0_rollersLying := by decide +kernel
  have he : entryFrame m args 4 = F0 m 0 ((lg_sl [.ref a0, .int w] ++ List.replicate (4 - (lg_sl [.ref a0, .int w]).length) Slot.unset).toArray) [] := by rw [hargs]; exact lg_entry_eq m _ _
  rw [he]
  change W p l e rmX0_rollersLying s m args below meth c s.heap [] 0 0 (MQ below (QcRead (nI (cLie F P n w))) args s 0 0 (fun _ => False)) _
  obtain ⟨Q, hQ⟩ : ∃ Q, Q = MQ below (QcRead (nI (cLie F P n w))) args s 0 0 (fun _ => False) := ⟨_, rfl⟩
  rw [← hQ]
  have hl := lv_entry [.ref a0, .int w] (n := 4) (Nat.le_of_ble_eq_true rfl)
  generalize (lg_sl [.ref a0, .int w] ++ List.replicate (4 - (lg_sl [.ref a0, .int w]).length) Slot.unset).toArray = ls at hl ⊢
  have hl : lv_has ls 4 [(0, .ref a0), (1, .int w)] := hl
  refine lv_iconst (v := nI 0) hx hb dX0_rollersLying_0 (by decide) ?_
  refine lv_istore_n (lv' := [(2, .int (nI 0)), (0, .ref a0), (1, .int w)]) hx hb dX0_rollersLying_1 rfl hl (by decide) rfl (fun ls hl => ?_)
  refine lv_iconst (v := nI 0) hx hb dX0_rollersLying_2 (by decide) ?_
  refine lv_istore_n (lv' := [(3, .int (nI 0)), (2, .int (nI 0)), (0, .ref a0), (1, .int w)]) hx hb dX0_rollersLying_3 rfl hl (by decide) rfl (fun ls hl => ?_)
  have loop4 : ∀ (fu : Nat) (i : Nat) (r : Nat), (n - i) < fu → (i ≤ n) → (r = cnt (fun k => decide (cSide F (P k) = w)) i) → ∀ (ls : Array Slot), lv_has ls 4 [(3, .int (nI i)), (2, .int (nI r)), (0, .ref a0), (1, .int w)] → W p l e rmX0_rollersLying s m args below meth c s.heap [] 0 0 Q (F0 m 4 ls []) := by
    intro fu
    induction fu with
    | zero => intro i r hfu; exact absurd hfu (Nat.not_lt_zero _)
    | succ fu ih4 =>
      intro i r hfu4 hi er
      intro ls hl
      refine lv_iload_n hx hb dX0_rollersLying_4 rfl (lv_at hl 0 rfl) ?_
      refine lv_aload_n hx hb dX0_rollersLying_5 rfl (lv_at hl 2 rfl) ?_
      refine va_get (D := D) (ci := 0) (v := .int (nI n)) (C := RX0) (T := TX0) (N := 20) hx hb hts hiX0 hown hK.1 hP 0 rfl rfl 3 (by decide) (hts (.fieldLink RX0 19 "SledgeRace$Team" "rollers" "I") (by decide +kernel)) (fun _ h9 => h9) (congrArg (fun z => some (Value.int z)) h3) dX0_rollersLying_6 ?_
      refine sp_ge (by omega) (by omega) (tgt := 44) hx hb dX0_rollersLying_9 (by decide) (fun c9 => ?_) (fun c9 => ?_)
      · skip
        refine lv_iload_n hx hb dX0_rollersLying_44 rfl (lv_at hl 1 rfl) ?_
        refine sp_top (show nI r = nI (cLie F P n w) from by rw [er, show i = n from by omega]; rfl) ?_
        subst hQ
        exact W.iret hx hb hr (fun t ht _ => ⟨rfl, ht⟩) (fun _ h => nomatch h) dX0_rollersLying_45
      · skip
        refine lv_iload_n hx hb dX0_rollersLying_12 rfl (lv_at hl 0 rfl) ?_
        refine lv_aload_n hx hb dX0_rollersLying_13 rfl (lv_at hl 2 rfl) ?_
        refine va_get (D := D) (ci := 0) (v := .ref a1) (C := RX0) (T := TX0) (N := 20) hx hb hts hiX0 hown hK.1 hP 0 rfl rfl 17 (by decide) (hts (.fieldLink RX0 40 "SledgeRace$Team" "places" "[I") (by decide +kernel)) (fun _ h9 => h9) rfl dX0_rollersLying_14 ?_
        refine va_alen hx hb hK.1 hP 1 0 rfl rfl (v := nI 8) rfl dX0_rollersLying_17 ?_
        refine sp_ge (by omega) (by omega) (tgt := 44) hx hb dX0_rollersLying_18 (by decide) (fun c18 => absurd c18 (by omega)) (fun _ => ?_)
        refine lv_aload_n hx hb dX0_rollersLying_21 rfl (lv_at hl 2 rfl) ?_
        refine lv_aload_n hx hb dX0_rollersLying_22 rfl (lv_at hl 2 rfl) ?_
        refine va_get (D := D) (ci := 0) (v := .ref a1) (C := RX0) (T := TX0) (N := 20) hx hb hts hiX0 hown hK.1 hP 0 rfl rfl 17 (by decide) (hts (.fieldLink RX0 40 "SledgeRace$Team" "places" "[I") (by decide +kernel)) (fun _ h9 => h9) rfl dX0_rollersLying_23 ?_
        refine lv_iload_n hx hb dX0_rollersLying_26 rfl (lv_at hl 0 rfl) ?_
        refine sp_iald hx hb hK.1 hP 1 0 rfl rfl (by omega) (by omega) dX0_rollersLying_27 ?_
        refine sp_rV (rest := []) (As := [.int (P i)]) ⟨hx, hb, hml, hown, hts⟩ (mX0_sideOf l D cI cT a0 a1 a2 a3 F (P i)) (cwV 1 hts gX0_rollersLying_X0_sideOf rfl rfl rfl (by decide +kernel) ⟨Nat.le_of_ble_eq_true rfl, Nat.le_of_ble_eq_true rfl⟩) hK (sp_pick hP [0] rfl) (ci := 0) rfl rfl rfl rfl hl.1 rfl (Nat.le_of_ble_eq_true rfl) dX0_rollersLying_28 ⟨Nat.zero_le _, Nat.zero_le _⟩ ?_
        refine lv_iload_n hx hb dX0_rollersLying_31 rfl (lv_at hl 3 rfl) ?_
        refine lv_icmp_ne (tgt := 38) hx hb dX0_rollersLying_32 (by decide) (fun c32 => ?_) (fun c32 => ?_)
        · skip
          refine lv_iinc (v := nI (i + 1)) (lv' := [(3, .int (nI (i + 1))), (2, .int (nI r)), (0, .ref a0), (1, .int w)]) hx hb dX0_rollersLying_38 hl (k := 0) rfl ((nI_1 i)) (by decide) rfl (fun ls hl => ?_)
          refine lv_goto (tgt := 4) hx hb dX0_rollersLying_41 (by decide) ?_
          exact ih4 (i + 1) r (by omega) (by omega) (by rw [cnt, ← er]; simp [c32]) ls (lv_sub hl [0, 1, 2, 3] rfl)
        · skip
          refine lv_iinc (v := nI (r + 1)) (lv' := [(2, .int (nI (r + 1))), (3, .int (nI i)), (0, .ref a0), (1, .int w)]) hx hb dX0_rollersLying_35 hl (k := 1) rfl ((nI_1 r)) (by decide) rfl (fun ls hl => ?_)
          refine lv_iinc (v := nI (i + 1)) (lv' := [(3, .int (nI (i + 1))), (2, .int (nI (r + 1))), (0, .ref a0), (1, .int w)]) hx hb dX0_rollersLying_38 hl (k := 1) rfl ((nI_1 i)) (by decide) rfl (fun ls hl => ?_)
          refine lv_goto (tgt := 4) hx hb dX0_rollersLying_41 (by decide) ?_
          exact ih4 (i + 1) (r + 1) (by omega) (by omega) (by rw [cnt, ← er]; simp [c32]) ls (lv_sub hl [0, 1, 2, 3] rfl)
  exact loop4 _ 0 0 (Nat.lt_succ_self _) (Nat.zero_le _) (rfl) ls (lv_sub hl [0, 1, 2, 3] rfl)

abbrev rmX0_lastBehind : Room := { frames := 1, cells := 0, slots := 0, locals := 21 }
set_option maxHeartbeats 4000000 in
set_option maxRecDepth 100000 in
/-- the roller that lies farthest behind -/
theorem mX0_lastBehind (l : Launch) (D : va_G) (cI cT : ClassId) (a0 a1 a2 a3 : Nat) (F P : Nat → Int32) (n : Nat) (hn : n ≤ 8) (h3 : F 3 = nI n) : MetR l D cI cT yX0_lastBehind wsX0_lastBehind rmX0_lastBehind [.ref a0] [(a0, oT F a1 a2 a3), (a1, aI cI 8 P)] ((cLB F P n).1) := by
  refine Met.ofW (cc := cX0_lastBehind) (maxL := 4) (ret := (some .int)) (by decide) rfl ?_
  intro p e s m args below meth c s₁ B hml hv
  obtain ⟨hargs, hP, hK⟩ := hv
  have hx := B.exec
  have hb := B.bytes
  have hr := B.returns
  have hts := atoms_spec (ws := wsX0_lastBehind) B.pre
  have hown : s.vm.findClass RX0 = some m.cls := findClass_of_methodNamed B.named
  have hlocks := B.notSynchronized
  have hiX0 : ∀ w ∈ u_ws RX0 TX0 20, w ∈ wsX0_lastBehind := by decide +kernel
  have he : entryFrame m args 4 = F0 m 0 ((lg_sl [.ref a0] ++ List.replicate (4 - (lg_sl [.ref a0]).length) Slot.unset).toArray) [] := by rw [hargs]; exact lg_entry_eq m _ _
  rw [he]
  change W p l e rmX0_lastBehind s m args below meth c s.heap [] 0 0 (MQ below (QcRead ((cLB F P n).1)) args s 0 0 (fun _ => False)) _
  obtain ⟨Q, hQ⟩ : ∃ Q, Q = MQ below (QcRead ((cLB F P n).1)) args s 0 0 (fun _ => False) := ⟨_, rfl⟩
  rw [← hQ]
  have hl := lv_entry [.ref a0] (n := 4) (Nat.le_of_ble_eq_true rfl)
  generalize (lg_sl [.ref a0] ++ List.replicate (4 - (lg_sl [.ref a0]).length) Slot.unset).toArray = ls at hl ⊢
  have hl : lv_has ls 4 [(0, .ref a0)] := hl
  refine lv_iconst (v := (-1)) hx hb dX0_lastBehind_0 (by decide) ?_
  refine lv_istore_n (lv' := [(1, .int (-1)), (0, .ref a0)]) hx hb dX0_lastBehind_1 rfl hl (by decide) rfl (fun ls hl => ?_)
  refine lv_aload_n hx hb dX0_lastBehind_2 rfl (lv_at hl 1 rfl) ?_
  refine va_get (D := D) (ci := 0) (v := .int (F 10)) (C := RX0) (T := TX0) (N := 20) hx hb hts hiX0 hown hK.1 hP 0 rfl rfl 10 (by decide) (hts (.fieldLink RX0 53 "SledgeRace$Team" "front" "I") (by decide +kernel)) (fun _ h9 => h9) rfl dX0_lastBehind_3 ?_
  refine lv_aload_n hx hb dX0_lastBehind_6 rfl (lv_at hl 1 rfl) ?_
  refine va_get (D := D) (ci := 0) (v := .int (F 1)) (C := RX0) (T := TX0) (N := 20) hx hb hts hiX0 hown hK.1 hP 0 rfl rfl 1 (by decide) (hts (.fieldLink RX0 13 "SledgeRace$Team" "length" "I") (by decide +kernel)) (fun _ h9 => h9) rfl dX0_lastBehind_7 ?_
  refine lv_isub hx hb dX0_lastBehind_10 ?_
  refine lv_istore_n (lv' := [(2, .int ((F 10) - (F 1))), (1, .int (-1)), (0, .ref a0)]) hx hb dX0_lastBehind_11 rfl hl (by decide) rfl (fun ls hl => ?_)
  refine lv_iconst (v := nI 0) hx hb dX0_lastBehind_12 (by decide) ?_
  refine lv_istore_n (lv' := [(3, .int (nI 0)), (2, .int ((F 10) - (F 1))), (1, .int (-1)), (0, .ref a0)]) hx hb dX0_lastBehind_13 rfl hl (by decide) rfl (fun ls hl => ?_)
  have loop14 : ∀ (fu : Nat) (i : Nat) (a : Int32) (b : Int32), (n - i) < fu → (i ≤ n) → (cLB F P i = (a, b)) → ∀ (ls : Array Slot), lv_has ls 4 [(3, .int (nI i)), (2, .int b), (1, .int a), (0, .ref a0)] → W p l e rmX0_lastBehind s m args below meth c s.heap [] 0 0 Q (F0 m 14 ls []) := by
    intro fu
    induction fu with
    | zero => intro i a b hfu; exact absurd hfu (Nat.not_lt_zero _)
    | succ fu ih14 =>
      intro i a b hfu14 hi hab
      intro ls hl
      refine lv_iload_n hx hb dX0_lastBehind_14 rfl (lv_at hl 0 rfl) ?_
      refine lv_aload_n hx hb dX0_lastBehind_15 rfl (lv_at hl 3 rfl) ?_
      refine va_get (D := D) (ci := 0) (v := .int (nI n)) (C := RX0) (T := TX0) (N := 20) hx hb hts hiX0 hown hK.1 hP 0 rfl rfl 3 (by decide) (hts (.fieldLink RX0 19 "SledgeRace$Team" "rollers" "I") (by decide +kernel)) (fun _ h9 => h9) (congrArg (fun z => some (Value.int z)) h3) dX0_lastBehind_16 ?_
      refine sp_ge (by omega) (by omega) (tgt := 70) hx hb dX0_lastBehind_19 (by decide) (fun c19 => ?_) (fun c19 => ?_)
      · skip
        refine lv_iload_n hx hb dX0_lastBehind_70 rfl (lv_at hl 2 rfl) ?_
        refine sp_top (show a = (cLB F P n).1 from by rw [← show i = n from by omega, hab]) ?_
        subst hQ
        exact W.iret hx hb hr (fun t ht _ => ⟨rfl, ht⟩) (fun _ h => nomatch h) dX0_lastBehind_71
      · skip
        refine lv_iload_n hx hb dX0_lastBehind_22 rfl (lv_at hl 0 rfl) ?_
        refine lv_aload_n hx hb dX0_lastBehind_23 rfl (lv_at hl 3 rfl) ?_
        refine va_get (D := D) (ci := 0) (v := .ref a1) (C := RX0) (T := TX0) (N := 20) hx hb hts hiX0 hown hK.1 hP 0 rfl rfl 17 (by decide) (hts (.fieldLink RX0 40 "SledgeRace$Team" "places" "[I") (by decide +kernel)) (fun _ h9 => h9) rfl dX0_lastBehind_24 ?_
        refine va_alen hx hb hK.1 hP 1 0 rfl rfl (v := nI 8) rfl dX0_lastBehind_27 ?_
        refine sp_ge (by omega) (by omega) (tgt := 70) hx hb dX0_lastBehind_28 (by decide) (fun c28 => absurd c28 (by omega)) (fun _ => ?_)
        refine lv_aload_n hx hb dX0_lastBehind_31 rfl (lv_at hl 3 rfl) ?_
        refine lv_aload_n hx hb dX0_lastBehind_32 rfl (lv_at hl 3 rfl) ?_
        refine va_get (D := D) (ci := 0) (v := .ref a1) (C := RX0) (T := TX0) (N := 20) hx hb hts hiX0 hown hK.1 hP 0 rfl rfl 17 (by decide) (hts (.fieldLink RX0 40 "SledgeRace$Team" "places" "[I") (by decide +kernel)) (fun _ h9 => h9) rfl dX0_lastBehind_33 ?_
        refine lv_iload_n hx hb dX0_lastBehind_36 rfl (lv_at hl 0 rfl) ?_
        refine sp_iald hx hb hK.1 hP 1 0 rfl rfl (by omega) (by omega) dX0_lastBehind_37 ?_
        refine sp_rV (rest := []) (As := [.int (P i)]) ⟨hx, hb, hml, hown, hts⟩ (mX0_sideOf l D cI cT a0 a1 a2 a3 F (P i)) (cwV 1 hts gX0_lastBehind_X0_sideOf rfl rfl rfl (by decide +kernel) ⟨Nat.le_of_ble_eq_true rfl, Nat.le_of_ble_eq_true rfl⟩) hK (sp_pick hP [0] rfl) (ci := 0) rfl rfl rfl rfl hl.1 rfl (Nat.le_of_ble_eq_true rfl) dX0_lastBehind_38 ⟨Nat.zero_le _, Nat.zero_le _⟩ ?_
        refine lv_iconst (v := 1) hx hb dX0_lastBehind_41 (by decide) ?_
        refine lv_icmp_ne (tgt := 64) hx hb dX0_lastBehind_42 (by decide) (fun c42 => ?_) (fun c42 => ?_)
        · skip
          refine lv_iinc (v := nI (i + 1)) (lv' := [(3, .int (nI (i + 1))), (2, .int b), (1, .int a), (0, .ref a0)]) hx hb dX0_lastBehind_64 hl (k := 0) rfl ((nI_1 i)) (by decide) rfl (fun ls hl => ?_)
          refine lv_goto (tgt := 14) hx hb dX0_lastBehind_67 (by decide) ?_
          exact ih14 (i + 1) a b (by omega) (by omega) (by simp only [cLB, hab]; simp [c42]) ls (lv_sub hl [0, 1, 2, 3] rfl)
        · skip
          refine lv_aload_n hx hb dX0_lastBehind_45 rfl (lv_at hl 3 rfl) ?_
          refine va_get (D := D) (ci := 0) (v := .ref a1) (C := RX0) (T := TX0) (N := 20) hx hb hts hiX0 hown hK.1 hP 0 rfl rfl 17 (by decide) (hts (.fieldLink RX0 40 "SledgeRace$Team" "places" "[I") (by decide +kernel)) (fun _ h9 => h9) rfl dX0_lastBehind_46 ?_
          refine lv_iload_n hx hb dX0_lastBehind_49 rfl (lv_at hl 0 rfl) ?_
          refine sp_iald hx hb hK.1 hP 1 0 rfl rfl (by omega) (by omega) dX0_lastBehind_50 ?_
          refine lv_iload_n hx hb dX0_lastBehind_51 rfl (lv_at hl 1 rfl) ?_
          refine lx_icmp_ge (tgt := 64) hx hb dX0_lastBehind_52 (by decide) (fun c52 => ?_) (fun c52 => ?_)
          · skip
            refine lv_iinc (v := nI (i + 1)) (lv' := [(3, .int (nI (i + 1))), (2, .int b), (1, .int a), (0, .ref a0)]) hx hb dX0_lastBehind_64 hl (k := 0) rfl ((nI_1 i)) (by decide) rfl (fun ls hl => ?_)
            refine lv_goto (tgt := 14) hx hb dX0_lastBehind_67 (by decide) ?_
            exact ih14 (i + 1) a b (by omega) (by omega) (by simp only [cLB, hab]; simp [c42, c52]) ls (lv_sub hl [0, 1, 2, 3] rfl)
          · skip
            refine lv_iload_n hx hb dX0_lastBehind_55 rfl (lv_at hl 0 rfl) ?_
            refine lv_istore_n (lv' := [(1, .int (nI i)), (3, .int (nI i)), (2, .int b), (0, .ref a0)]) hx hb dX0_lastBehind_56 rfl hl (by decide) rfl (fun ls hl => ?_)
            refine lv_aload_n hx hb dX0_lastBehind_57 rfl (lv_at hl 3 rfl) ?_
            refine va_get (D := D) (ci := 0) (v := .ref a1) (C := RX0) (T := TX0) (N := 20) hx hb hts hiX0 hown hK.1 hP 0 rfl rfl 17 (by decide) (hts (.fieldLink RX0 40 "SledgeRace$Team" "places" "[I") (by decide +kernel)) (fun _ h9 => h9) rfl dX0_lastBehind_58 ?_
            refine lv_iload_n hx hb dX0_lastBehind_61 rfl (lv_at hl 1 rfl) ?_
            refine sp_iald hx hb hK.1 hP 1 0 rfl rfl (by omega) (by omega) dX0_lastBehind_62 ?_
            refine lv_istore_n (lv' := [(2, .int (P i)), (1, .int (nI i)), (3, .int (nI i)), (0, .ref a0)]) hx hb dX0_lastBehind_63 rfl hl (by decide) rfl (fun ls hl => ?_)
            refine lv_iinc (v := nI (i + 1)) (lv' := [(3, .int (nI (i + 1))), (2, .int (P i)), (1, .int (nI i)), (0, .ref a0)]) hx hb dX0_lastBehind_64 hl (k := 2) rfl ((nI_1 i)) (by decide) rfl (fun ls hl => ?_)
            refine lv_goto (tgt := 14) hx hb dX0_lastBehind_67 (by decide) ?_
            exact ih14 (i + 1) (nI i) (P i) (by omega) (by omega) (by simp only [cLB, hab]; simp [c42, c52]) ls (lv_sub hl [0, 1, 2, 3] rfl)
  exact loop14 _ 0 (-1) (F 10 - F 1) (Nat.lt_succ_self _) (Nat.zero_le _) (rfl) ls (lv_sub hl [0, 1, 2, 3] rfl)
end
section
abbrev rmX1_groundAt : Room := { frames := 1, cells := 0, slots := 0, locals := 13 }
set_option maxHeartbeats 4000000 in
set_option maxRecDepth 100000 in
/-- the ground at a place: slope -/
theorem mX1_groundAt0 (l : Launch) (D : va_G) (cI cT : ClassId) (k0 k1 k2 k3 : Nat) (KF S U V : Nat → Int32) (x : Int32) (ns : Nat) (hns : ns ≤ 12) (hk : KF 3 = nI ns) : MetR l D cI cT yX1_groundAt wsX1_groundAt rmX1_groundAt [.ref k0, .int x, .int 0] [(k0, oK KF k1 k2 k3), (k1, aI cI 12 S), (k2, aI cI 12 U), (k3, aI cI 12 V)] (cGr S U ns x) := by
  refine Met.ofW (cc := cX1_groundAt) (maxL := 8) (ret := (some .int)) (by decide) rfl ?_
  intro p e s m args below meth c s₁ B hml hv
  obtain ⟨hargs, hP, hK⟩ := hv
  have hx := B.exec
  have hb := B.bytes
  have hr := B.returns
  have hts := atoms_spec (ws := wsX1_groundAt) B.pre
  have hown : s.vm.findClass RX1 = some m.cls := findClass_of_methodNamed B.named
  have hlocks := B.notSynchronized
  have hiX1 : ∀ w ∈ u_ws RX1 TX1 5, w ∈ wsX1_groundAt := by decide +kernel
  have he : entryFrame m args 8 = F0 m 0 ((lg_sl [.ref k0, .int x, .int 0] ++ List.replicate (8 - (lg_sl [.ref k0, .int x, .int 0]).length) Slot.unset).toArray) [] := by rw [hargs]; exact lg_entry_eq m _ _
  rw [he]
  change W p l e rmX1_groundAt s m args below meth c s.heap [] 0 0 (MQ below (QcRead (cGr S U ns x)) args s 0 0 (fun _ => False)) _
  obtain ⟨Q, hQ⟩ : ∃ Q, Q = MQ below (QcRead (cGr S U ns x)) args s 0 0 (fun _ => False) := ⟨_, rfl⟩
  rw [← hQ]
  have hl := lv_entry [.ref k0, .int x, .int 0] (n := 8) (Nat.le_of_ble_eq_true rfl)
  generalize (lg_sl [.ref k0, .int x, .int 0] ++ List.replicate (8 - (lg_sl [.ref k0, .int x, .int 0]).length) Slot.unset).toArray = ls at hl ⊢
  have hl : lv_has ls 8 [(0, .ref k0), (1, .int x), (2, .int 0)] := hl
  refine lv_iload_n hx hb dX1_groundAt_0 rfl (lv_at hl 2 rfl) ?_
  refine lv_if_eq (tgt := 11) hx hb dX1_groundAt_1 (by decide) (fun _ => ?_) (fun c1 => absurd c1 (by decide))
  refine lv_aload_n hx hb dX1_groundAt_11 rfl (lv_at hl 0 rfl) ?_
  refine va_get (D := D) (ci := 1) (v := .ref k2) (C := RX1) (T := TX1) (N := 5) hx hb hts hiX1 hown hK.1 hP 0 rfl rfl 1 (by decide) (hts (.fieldLink RX1 13 "SledgeRace$Track" "slopes" "[I") (by decide +kernel)) (fun _ h9 => h9) rfl dX1_groundAt_12 ?_
  refine lv_astore_n (lv' := [(3, .ref k2), (0, .ref k0), (1, .int x), (2, .int 0)]) hx hb dX1_groundAt_15 rfl hl (by decide) rfl (fun ls hl => ?_)
  refine lv_iload_n hx hb dX1_groundAt_16 rfl (lv_at hl 2 rfl) ?_
  refine lv_iconst (v := 0) hx hb dX1_groundAt_17 (by decide) ?_
  refine va_mmax hx hb (hml.trans hl.1.symm) hown (hts (.methodLink RX1 26 Lib.Math.max.name) (by decide +kernel)) (hts (.static Lib.Math.max.name) (by decide +kernel)) (hts (.initialized "java/lang/Math") (by decide +kernel)) (hts (.code Lib.Math.max.name Lib.Math.max.code 2 (some .int)) (by decide +kernel)) (Nat.le_of_ble_eq_true rfl) (Nat.le_of_ble_eq_true rfl) (Nat.zero_le _) (Nat.zero_le _) dX1_groundAt_18 ?_
  change W _ _ _ _ _ _ _ _ _ _ _ _ _ _ _ (F0 m 21 ls (.int (imax x 0) :: _))
  refine lv_istore (lv' := [(4, .int (imax x 0)), (3, .ref k2), (0, .ref k0), (1, .int x), (2, .int 0)]) hx hb dX1_groundAt_21 hl (by decide) rfl (fun ls hl => ?_)
  refine lv_iconst (v := (-1)) hx hb dX1_groundAt_23 (by decide) ?_
  refine lv_istore (lv' := [(5, .int (-1)), (4, .int (imax x 0)), (3, .ref k2), (0, .ref k0), (1, .int x), (2, .int 0)]) hx hb dX1_groundAt_24 hl (by decide) rfl (fun ls hl => ?_)
  refine lv_iconst (v := 0) hx hb dX1_groundAt_26 (by decide) ?_
  refine lv_istore (lv' := [(6, .int 0), (5, .int (-1)), (4, .int (imax x 0)), (3, .ref k2), (0, .ref k0), (1, .int x), (2, .int 0)]) hx hb dX1_groundAt_27 hl (by decide) rfl (fun ls hl => ?_)
  refine lv_iconst (v := nI 0) hx hb dX1_groundAt_29 (by decide) ?_
  refine lv_istore (lv' := [(7, .int (nI 0)), (6, .int 0), (5, .int (-1)), (4, .int (imax x 0)), (3, .ref k2), (0, .ref k0), (1, .int x), (2, .int 0)]) hx hb dX1_groundAt_30 hl (by decide) rfl (fun ls hl => ?_)
  have loop32 : ∀ (fu : Nat) (i : Nat) (a : Int32) (b : Int32), (ns - i) < fu → (i ≤ ns) → (cGL S U (imax x 0) i = (a, b)) → ∀ (ls : Array Slot), lv_has ls 8 [(7, .int (nI i)), (6, .int b), (5, .int a), (4, .int (imax x 0)), (3, .ref k2), (0, .ref k0)] → W p l e rmX1_groundAt s m args below meth c s.heap [] 0 0 Q (F0 m 32 ls []) := by
    intro fu
    induction fu with
    | zero => intro i a b hfu; exact absurd hfu (Nat.not_lt_zero _)
    | succ fu ih32 =>
      intro i a b hfu32 hi hab
      intro ls hl
      refine lv_iload hx hb dX1_groundAt_32 (lv_at hl 0 rfl) ?_
      refine lv_aload_n hx hb dX1_groundAt_34 rfl (lv_at hl 5 rfl) ?_
      refine va_get (D := D) (ci := 1) (v := .int (nI ns)) (C := RX1) (T := TX1) (N := 5) hx hb hts hiX1 hown hK.1 hP 0 rfl rfl 3 (by decide) (hts (.fieldLink RX1 19 "SledgeRace$Track" "stretches" "I") (by decide +kernel)) (fun _ h9 => h9) (congrArg (fun z => some (Value.int z)) hk) dX1_groundAt_35 ?_
      refine sp_ge (by omega) (by omega) (tgt := 103) hx hb dX1_groundAt_38 (by decide) (fun c38 => ?_) (fun c38 => ?_)
      · skip
        refine lv_iload hx hb dX1_groundAt_103 (lv_at hl 1 rfl) ?_
        refine sp_top (show b = cGr S U ns x from by unfold cGr; rw [← show i = ns from by omega, hab]) ?_
        subst hQ
        exact W.iret hx hb hr (fun t ht _ => ⟨rfl, ht⟩) (fun _ h => nomatch h) dX1_groundAt_105
      · skip
        refine lv_iload hx hb dX1_groundAt_41 (lv_at hl 0 rfl) ?_
        refine lv_aload_n hx hb dX1_groundAt_43 rfl (lv_at hl 5 rfl) ?_
        refine va_get (D := D) (ci := 1) (v := .ref k1) (C := RX1) (T := TX1) (N := 5) hx hb hts hiX1 hown hK.1 hP 0 rfl rfl 0 (by decide) (hts (.fieldLink RX1 9 "SledgeRace$Track" "starts" "[I") (by decide +kernel)) (fun _ h9 => h9) rfl dX1_groundAt_44 ?_
        refine va_alen hx hb hK.1 hP 1 0 rfl rfl (v := nI 12) rfl dX1_groundAt_47 ?_
        refine sp_ge (by omega) (by omega) (tgt := 103) hx hb dX1_groundAt_48 (by decide) (fun c48 => absurd c48 (by omega)) (fun _ => ?_)
        refine lv_iload hx hb dX1_groundAt_51 (lv_at hl 0 rfl) ?_
        refine lv_aload_n hx hb dX1_groundAt_53 rfl (lv_at hl 4 rfl) ?_
        refine va_alen hx hb hK.1 hP 2 0 rfl rfl (v := nI 12) rfl dX1_groundAt_54 ?_
        refine sp_ge (by omega) (by omega) (tgt := 103) hx hb dX1_groundAt_55 (by decide) (fun c55 => absurd c55 (by omega)) (fun _ => ?_)
        refine lv_aload_n hx hb dX1_groundAt_58 rfl (lv_at hl 5 rfl) ?_
        refine va_get (D := D) (ci := 1) (v := .ref k1) (C := RX1) (T := TX1) (N := 5) hx hb hts hiX1 hown hK.1 hP 0 rfl rfl 0 (by decide) (hts (.fieldLink RX1 9 "SledgeRace$Track" "starts" "[I") (by decide +kernel)) (fun _ h9 => h9) rfl dX1_groundAt_59 ?_
        refine lv_iload hx hb dX1_groundAt_62 (lv_at hl 0 rfl) ?_
        refine sp_iald hx hb hK.1 hP 1 0 rfl rfl (by omega) (by omega) dX1_groundAt_64 ?_
        refine lv_iload hx hb dX1_groundAt_65 (lv_at hl 3 rfl) ?_
        refine lv_icmp_gt (tgt := 97) hx hb dX1_groundAt_67 (by decide) (fun c67 => ?_) (fun c67 => ?_)
        · skip
          refine lv_iinc (v := nI (i + 1)) (lv' := [(7, .int (nI (i + 1))), (6, .int b), (5, .int a), (4, .int (imax x 0)), (3, .ref k2), (0, .ref k0)]) hx hb dX1_groundAt_97 hl (k := 0) rfl ((nI_1 i)) (by decide) rfl (fun ls hl => ?_)
          refine lv_goto (tgt := 32) hx hb dX1_groundAt_100 (by decide) ?_
          exact ih32 (i + 1) a b (by omega) (by omega) (by simp only [cGL, hab]; rw [if_neg (fun q => q.1 c67)]) ls (lv_sub hl [0, 1, 2, 3, 4, 5] rfl)
        · skip
          refine lv_aload_n hx hb dX1_groundAt_70 rfl (lv_at hl 5 rfl) ?_
          refine va_get (D := D) (ci := 1) (v := .ref k1) (C := RX1) (T := TX1) (N := 5) hx hb hts hiX1 hown hK.1 hP 0 rfl rfl 0 (by decide) (hts (.fieldLink RX1 9 "SledgeRace$Track" "starts" "[I") (by decide +kernel)) (fun _ h9 => h9) rfl dX1_groundAt_71 ?_
          refine lv_iload hx hb dX1_groundAt_74 (lv_at hl 0 rfl) ?_
          refine sp_iald hx hb hK.1 hP 1 0 rfl rfl (by omega) (by omega) dX1_groundAt_76 ?_
          refine lv_iload hx hb dX1_groundAt_77 (lv_at hl 2 rfl) ?_
          refine lx_icmp_le (tgt := 97) hx hb dX1_groundAt_79 (by decide) (fun c79 => ?_) (fun c79 => ?_)
          · skip
            refine lv_iinc (v := nI (i + 1)) (lv' := [(7, .int (nI (i + 1))), (6, .int b), (5, .int a), (4, .int (imax x 0)), (3, .ref k2), (0, .ref k0)]) hx hb dX1_groundAt_97 hl (k := 0) rfl ((nI_1 i)) (by decide) rfl (fun ls hl => ?_)
            refine lv_goto (tgt := 32) hx hb dX1_groundAt_100 (by decide) ?_
            exact ih32 (i + 1) a b (by omega) (by omega) (by simp only [cGL, hab]; rw [if_neg (fun q => c79 q.2)]) ls (lv_sub hl [0, 1, 2, 3, 4, 5] rfl)
          · skip
            refine lv_aload_n hx hb dX1_groundAt_82 rfl (lv_at hl 5 rfl) ?_
            refine va_get (D := D) (ci := 1) (v := .ref k1) (C := RX1) (T := TX1) (N := 5) hx hb hts hiX1 hown hK.1 hP 0 rfl rfl 0 (by decide) (hts (.fieldLink RX1 9 "SledgeRace$Track" "starts" "[I") (by decide +kernel)) (fun _ h9 => h9) rfl dX1_groundAt_83 ?_
            refine lv_iload hx hb dX1_groundAt_86 (lv_at hl 0 rfl) ?_
            refine sp_iald hx hb hK.1 hP 1 0 rfl rfl (by omega) (by omega) dX1_groundAt_88 ?_
            refine lv_istore (lv' := [(5, .int (S i)), (7, .int (nI i)), (6, .int b), (4, .int (imax x 0)), (3, .ref k2), (0, .ref k0)]) hx hb dX1_groundAt_89 hl (by decide) rfl (fun ls hl => ?_)
            refine lv_aload_n hx hb dX1_groundAt_91 rfl (lv_at hl 4 rfl) ?_
            refine lv_iload hx hb dX1_groundAt_92 (lv_at hl 1 rfl) ?_
            refine sp_iald hx hb hK.1 hP 2 0 rfl rfl (by omega) (by omega) dX1_groundAt_94 ?_
            refine lv_istore (lv' := [(6, .int (U i)), (5, .int (S i)), (7, .int (nI i)), (4, .int (imax x 0)), (3, .ref k2), (0, .ref k0)]) hx hb dX1_groundAt_95 hl (by decide) rfl (fun ls hl => ?_)
            refine lv_iinc (v := nI (i + 1)) (lv' := [(7, .int (nI (i + 1))), (6, .int (U i)), (5, .int (S i)), (4, .int (imax x 0)), (3, .ref k2), (0, .ref k0)]) hx hb dX1_groundAt_97 hl (k := 2) rfl ((nI_1 i)) (by decide) rfl (fun ls hl => ?_)
            refine lv_goto (tgt := 32) hx hb dX1_groundAt_100 (by decide) ?_
            exact ih32 (i + 1) (S i) (U i) (by omega) (by omega) (by simp only [cGL, hab]; rw [if_pos ⟨c67, c79⟩]) ls (lv_sub hl [0, 1, 2, 3, 4, 5] rfl)
  exact loop32 _ 0 (-1) 0 (Nat.lt_succ_self _) (Nat.zero_le _) (rfl) ls (lv_sub hl [0, 1, 2, 3, 4, 5] rfl)

set_option maxHeartbeats 4000000 in
set_option maxRecDepth 100000 in
/-- the ground at a place: softness -/
theorem mX1_groundAt1 (l : Launch) (D : va_G) (cI cT : ClassId) (k0 k1 k2 k3 : Nat) (KF S U V : Nat → Int32) (x : Int32) (ns : Nat) (hns : ns ≤ 12) (hk : KF 3 = nI ns) : MetR l D cI cT yX1_groundAt wsX1_groundAt rmX1_groundAt [.ref k0, .int x, .int 1] [(k0, oK KF k1 k2 k3), (k1, aI cI 12 S), (k2, aI cI 12 U), (k3, aI cI 12 V)] (cGr S V ns x) := by
  refine Met.ofW (cc := cX1_groundAt) (maxL := 8) (ret := (some .int)) (by decide) rfl ?_
  intro p e s m args below meth c s₁ B hml hv
  obtain ⟨hargs, hP, hK⟩ := hv
  have hx := B.exec
  have hb := B.bytes
  have hr := B.returns
  have hts := atoms_spec (ws := wsX1_groundAt) B.pre
  have hown : s.vm.findClass RX1 = some m.cls := findClass_of_methodNamed B.named
  have hlocks := B.notSynchronized
  have hiX1 : ∀ w ∈ u_ws RX1 TX1 5, w ∈ wsX1_groundAt := by decide +kernel
  have he : entryFrame m args 8 = F0 m 0 ((lg_sl [.ref k0, .int x, .int 1] ++ List.replicate (8 - (lg_sl [.ref k0, .int x, .int 1]).length) Slot.unset).toArray) [] := by rw [hargs]; exact lg_entry_eq m _ _
  rw [he]
  change W p l e rmX1_groundAt s m args below meth c s.heap [] 0 0 (MQ below (QcRead (cGr S V ns x)) args s 0 0 (fun _ => False)) _
  obtain ⟨Q, hQ⟩ : ∃ Q, Q = MQ below (QcRead (cGr S V ns x)) args s 0 0 (fun _ => False) := ⟨_, rfl⟩
  rw [← hQ]
  have hl := lv_entry [.ref k0, .int x, .int 1] (n := 8) (Nat.le_of_ble_eq_true rfl)
  generalize (lg_sl [.ref k0, .int x, .int 1] ++ List.replicate (8 - (lg_sl [.ref k0, .int x, .int 1]).length) Slot.unset).toArray = ls at hl ⊢
  have hl : lv_has ls 8 [(0, .ref k0), (1, .int x), (2, .int 1)] := hl
  refine lv_iload_n hx hb dX1_groundAt_0 rfl (lv_at hl 2 rfl) ?_
  refine lv_if_eq (tgt := 11) hx hb dX1_groundAt_1 (by decide) (fun c1 => absurd c1 (by decide)) (fun _ => ?_)
  refine lv_aload_n hx hb dX1_groundAt_4 rfl (lv_at hl 0 rfl) ?_
  refine va_get (D := D) (ci := 1) (v := .ref k3) (C := RX1) (T := TX1) (N := 5) hx hb hts hiX1 hown hK.1 hP 0 rfl rfl 2 (by decide) (hts (.fieldLink RX1 16 "SledgeRace$Track" "softnesses" "[I") (by decide +kernel)) (fun _ h9 => h9) rfl dX1_groundAt_5 ?_
  refine lv_goto (tgt := 15) hx hb dX1_groundAt_8 (by decide) ?_
  refine lv_astore_n (lv' := [(3, .ref k3), (0, .ref k0), (1, .int x), (2, .int 1)]) hx hb dX1_groundAt_15 rfl hl (by decide) rfl (fun ls hl => ?_)
  refine lv_iload_n hx hb dX1_groundAt_16 rfl (lv_at hl 2 rfl) ?_
  refine lv_iconst (v := 0) hx hb dX1_groundAt_17 (by decide) ?_
  refine va_mmax hx hb (hml.trans hl.1.symm) hown (hts (.methodLink RX1 26 Lib.Math.max.name) (by decide +kernel)) (hts (.static Lib.Math.max.name) (by decide +kernel)) (hts (.initialized "java/lang/Math") (by decide +kernel)) (hts (.code Lib.Math.max.name Lib.Math.max.code 2 (some .int)) (by decide +kernel)) (Nat.le_of_ble_eq_true rfl) (Nat.le_of_ble_eq_true rfl) (Nat.zero_le _) (Nat.zero_le _) dX1_groundAt_18 ?_
  change W _ _ _ _ _ _ _ _ _ _ _ _ _ _ _ (F0 m 21 ls (.int (imax x 0) :: _))
  refine lv_istore (lv' := [(4, .int (imax x 0)), (3, .ref k3), (0, .ref k0), (1, .int x), (2, .int 1)]) hx hb dX1_groundAt_21 hl (by decide) rfl (fun ls hl => ?_)
  refine lv_iconst (v := (-1)) hx hb dX1_groundAt_23 (by decide) ?_
  refine lv_istore (lv' := [(5, .int (-1)), (4, .int (imax x 0)), (3, .ref k3), (0, .ref k0), (1, .int x), (2, .int 1)]) hx hb dX1_groundAt_24 hl (by decide) rfl (fun ls hl => ?_)
  refine lv_iconst (v := 0) hx hb dX1_groundAt_26 (by decide) ?_
  refine lv_istore (lv' := [(6, .int 0), (5, .int (-1)), (4, .int (imax x 0)), (3, .ref k3), (0, .ref k0), (1, .int x), (2, .int 1)]) hx hb dX1_groundAt_27 hl (by decide) rfl (fun ls hl => ?_)
  refine lv_iconst (v := nI 0) hx hb dX1_groundAt_29 (by decide) ?_
  refine lv_istore (lv' := [(7, .int (nI 0)), (6, .int 0), (5, .int (-1)), (4, .int (imax x 0)), (3, .ref k3), (0, .ref k0), (1, .int x), (2, .int 1)]) hx hb dX1_groundAt_30 hl (by decide) rfl (fun ls hl => ?_)
  have loop32 : ∀ (fu : Nat) (i : Nat) (a : Int32) (b : Int32), (ns - i) < fu → (i ≤ ns) → (cGL S V (imax x 0) i = (a, b)) → ∀ (ls : Array Slot), lv_has ls 8 [(7, .int (nI i)), (6, .int b), (5, .int a), (4, .int (imax x 0)), (3, .ref k3), (0, .ref k0)] → W p l e rmX1_groundAt s m args below meth c s.heap [] 0 0 Q (F0 m 32 ls []) := by
    intro fu
    induction fu with
    | zero => intro i a b hfu; exact absurd hfu (Nat.not_lt_zero _)
    | succ fu ih32 =>
      intro i a b hfu32 hi hab
      intro ls hl
      refine lv_iload hx hb dX1_groundAt_32 (lv_at hl 0 rfl) ?_
      refine lv_aload_n hx hb dX1_groundAt_34 rfl (lv_at hl 5 rfl) ?_
      refine va_get (D := D) (ci := 1) (v := .int (nI ns)) (C := RX1) (T := TX1) (N := 5) hx hb hts hiX1 hown hK.1 hP 0 rfl rfl 3 (by decide) (hts (.fieldLink RX1 19 "SledgeRace$Track" "stretches" "I") (by decide +kernel)) (fun _ h9 => h9) (congrArg (fun z => some (Value.int z)) hk) dX1_groundAt_35 ?_
      refine sp_ge (by omega) (by omega) (tgt := 103) hx hb dX1_groundAt_38 (by decide) (fun c38 => ?_) (fun c38 => ?_)
      · skip
        refine lv_iload hx hb dX1_groundAt_103 (lv_at hl 1 rfl) ?_
        refine sp_top (show b = cGr S V ns x from by unfold cGr; rw [← show i = ns from by omega, hab]) ?_
        subst hQ
        exact W.iret hx hb hr (fun t ht _ => ⟨rfl, ht⟩) (fun _ h => nomatch h) dX1_groundAt_105
      · skip
        refine lv_iload hx hb dX1_groundAt_41 (lv_at hl 0 rfl) ?_
        refine lv_aload_n hx hb dX1_groundAt_43 rfl (lv_at hl 5 rfl) ?_
        refine va_get (D := D) (ci := 1) (v := .ref k1) (C := RX1) (T := TX1) (N := 5) hx hb hts hiX1 hown hK.1 hP 0 rfl rfl 0 (by decide) (hts (.fieldLink RX1 9 "SledgeRace$Track" "starts" "[I") (by decide +kernel)) (fun _ h9 => h9) rfl dX1_groundAt_44 ?_
        refine va_alen hx hb hK.1 hP 1 0 rfl rfl (v := nI 12) rfl dX1_groundAt_47 ?_
        refine sp_ge (by omega) (by omega) (tgt := 103) hx hb dX1_groundAt_48 (by decide) (fun c48 => absurd c48 (by omega)) (fun _ => ?_)
        refine lv_iload hx hb dX1_groundAt_51 (lv_at hl 0 rfl) ?_
        refine lv_aload_n hx hb dX1_groundAt_53 rfl (lv_at hl 4 rfl) ?_
        refine va_alen hx hb hK.1 hP 3 0 rfl rfl (v := nI 12) rfl dX1_groundAt_54 ?_
        refine sp_ge (by omega) (by omega) (tgt := 103) hx hb dX1_groundAt_55 (by decide) (fun c55 => absurd c55 (by omega)) (fun _ => ?_)
        refine lv_aload_n hx hb dX1_groundAt_58 rfl (lv_at hl 5 rfl) ?_
        refine va_get (D := D) (ci := 1) (v := .ref k1) (C := RX1) (T := TX1) (N := 5) hx hb hts hiX1 hown hK.1 hP 0 rfl rfl 0 (by decide) (hts (.fieldLink RX1 9 "SledgeRace$Track" "starts" "[I") (by decide +kernel)) (fun _ h9 => h9) rfl dX1_groundAt_59 ?_
        refine lv_iload hx hb dX1_groundAt_62 (lv_at hl 0 rfl) ?_
        refine sp_iald hx hb hK.1 hP 1 0 rfl rfl (by omega) (by omega) dX1_groundAt_64 ?_
        refine lv_iload hx hb dX1_groundAt_65 (lv_at hl 3 rfl) ?_
        refine lv_icmp_gt (tgt := 97) hx hb dX1_groundAt_67 (by decide) (fun c67 => ?_) (fun c67 => ?_)
        · skip
          refine lv_iinc (v := nI (i + 1)) (lv' := [(7, .int (nI (i + 1))), (6, .int b), (5, .int a), (4, .int (imax x 0)), (3, .ref k3), (0, .ref k0)]) hx hb dX1_groundAt_97 hl (k := 0) rfl ((nI_1 i)) (by decide) rfl (fun ls hl => ?_)
          refine lv_goto (tgt := 32) hx hb dX1_groundAt_100 (by decide) ?_
          exact ih32 (i + 1) a b (by omega) (by omega) (by simp only [cGL, hab]; rw [if_neg (fun q => q.1 c67)]) ls (lv_sub hl [0, 1, 2, 3, 4, 5] rfl)
        · skip
          refine lv_aload_n hx hb dX1_groundAt_70 rfl (lv_at hl 5 rfl) ?_
          refine va_get (D := D) (ci := 1) (v := .ref k1) (C := RX1) (T := TX1) (N := 5) hx hb hts hiX1 hown hK.1 hP 0 rfl rfl 0 (by decide) (hts (.fieldLink RX1 9 "SledgeRace$Track" "starts" "[I") (by decide +kernel)) (fun _ h9 => h9) rfl dX1_groundAt_71 ?_
          refine lv_iload hx hb dX1_groundAt_74 (lv_at hl 0 rfl) ?_
          refine sp_iald hx hb hK.1 hP 1 0 rfl rfl (by omega) (by omega) dX1_groundAt_76 ?_
          refine lv_iload hx hb dX1_groundAt_77 (lv_at hl 2 rfl) ?_
          refine lx_icmp_le (tgt := 97) hx hb dX1_groundAt_79 (by decide) (fun c79 => ?_) (fun c79 => ?_)
          · skip
            refine lv_iinc (v := nI (i + 1)) (lv' := [(7, .int (nI (i + 1))), (6, .int b), (5, .int a), (4, .int (imax x 0)), (3, .ref k3), (0, .ref k0)]) hx hb dX1_groundAt_97 hl (k := 0) rfl ((nI_1 i)) (by decide) rfl (fun ls hl => ?_)
            refine lv_goto (tgt := 32) hx hb dX1_groundAt_100 (by decide) ?_
            exact ih32 (i + 1) a b (by omega) (by omega) (by simp only [cGL, hab]; rw [if_neg (fun q => c79 q.2)]) ls (lv_sub hl [0, 1, 2, 3, 4, 5] rfl)
          · skip
            refine lv_aload_n hx hb dX1_groundAt_82 rfl (lv_at hl 5 rfl) ?_
            refine va_get (D := D) (ci := 1) (v := .ref k1) (C := RX1) (T := TX1) (N := 5) hx hb hts hiX1 hown hK.1 hP 0 rfl rfl 0 (by decide) (hts (.fieldLink RX1 9 "SledgeRace$Track" "starts" "[I") (by decide +kernel)) (fun _ h9 => h9) rfl dX1_groundAt_83 ?_
            refine lv_iload hx hb dX1_groundAt_86 (lv_at hl 0 rfl) ?_
            refine sp_iald hx hb hK.1 hP 1 0 rfl rfl (by omega) (by omega) dX1_groundAt_88 ?_
            refine lv_istore (lv' := [(5, .int (S i)), (7, .int (nI i)), (6, .int b), (4, .int (imax x 0)), (3, .ref k3), (0, .ref k0)]) hx hb dX1_groundAt_89 hl (by decide) rfl (fun ls hl => ?_)
            refine lv_aload_n hx hb dX1_groundAt_91 rfl (lv_at hl 4 rfl) ?_
            refine lv_iload hx hb dX1_groundAt_92 (lv_at hl 1 rfl) ?_
            refine sp_iald hx hb hK.1 hP 3 0 rfl rfl (by omega) (by omega) dX1_groundAt_94 ?_
            refine lv_istore (lv' := [(6, .int (V i)), (5, .int (S i)), (7, .int (nI i)), (4, .int (imax x 0)), (3, .ref k3), (0, .ref k0)]) hx hb dX1_groundAt_95 hl (by decide) rfl (fun ls hl => ?_)
            refine lv_iinc (v := nI (i + 1)) (lv' := [(7, .int (nI (i + 1))), (6, .int (V i)), (5, .int (S i)), (4, .int (imax x 0)), (3, .ref k3), (0, .ref k0)]) hx hb dX1_groundAt_97 hl (k := 2) rfl ((nI_1 i)) (by decide) rfl (fun ls hl => ?_)
            refine lv_goto (tgt := 32) hx hb dX1_groundAt_100 (by decide) ?_
            exact ih32 (i + 1) (S i) (V i) (by omega) (by omega) (by simp only [cGL, hab]; rw [if_pos ⟨c67, c79⟩]) ls (lv_sub hl [0, 1, 2, 3, 4, 5] rfl)
  exact loop32 _ 0 (-1) 0 (Nat.lt_succ_self _) (Nat.zero_le _) (rfl) ls (lv_sub hl [0, 1, 2, 3, 4, 5] rfl)

abbrev rmX1_putStretch : Room := { frames := 0, cells := 0, slots := 0, locals := 0 }
set_option maxHeartbeats 4000000 in
set_option maxRecDepth 100000 in
/-- a stretch is put -/
theorem mX1_putStretch (l : Launch) (D : va_G) (cI cT : ClassId) (k0 k1 k2 k3 : Nat) (KF S U V : Nat → Int32) (x a b : Int32) (ns : Nat) (hns : ns ≤ 12) (hk : KF 3 = nI ns) : MetI l D cI cT yX1_putStretch wsX1_putStretch rmX1_putStretch [.ref k0, .int x, .int a, .int b] [(k0, oK KF k1 k2 k3), (k1, aI cI 12 S), (k2, aI cI 12 U), (k3, aI cI 12 V)] [] [(k0, oK (cPutK S ns x KF) k1 k2 k3), (k1, aI cI 12 (cPut S ns x S x)), (k2, aI cI 12 (cPut S ns x U a)), (k3, aI cI 12 (cPut S ns x V b))] (bI (decide (fnd S x ns < 12))) := by
  refine Met.ofW (cc := cX1_putStretch) (maxL := 5) (ret := (some .boolean)) (by decide) rfl ?_
  intro p e s m args below meth c s₁ B hml hv
  obtain ⟨hargs, hP, hR0, hK, hN⟩ := hv
  have hx := B.exec
  have hb := B.bytes
  have hr := B.returns
  have hts := atoms_spec (ws := wsX1_putStretch) B.pre
  have hown : s.vm.findClass RX1 = some m.cls := findClass_of_methodNamed B.named
  have hlocks := B.notSynchronized
  have hiX1 : ∀ w ∈ u_ws RX1 TX1 5, w ∈ wsX1_putStretch := by decide +kernel
  have he : entryFrame m args 5 = F0 m 0 ((lg_sl [.ref k0, .int x, .int a, .int b] ++ List.replicate (5 - (lg_sl [.ref k0, .int x, .int a, .int b]).length) Slot.unset).toArray) [] := by rw [hargs]; exact lg_entry_eq m _ _
  rw [he]
  change W p l e rmX1_putStretch s m args below meth c s.heap [] 0 0 (MQ below (va_Qi (S := Unit) (fun z _ => z = bI (decide (fnd S x ns < 12))) (fun _ t => va_P D vwCl [(k0, oK (cPutK S ns x KF) k1 k2 k3), (k1, aI cI 12 (cPut S ns x S x)), (k2, aI cI 12 (cPut S ns x U a)), (k3, aI cI 12 (cPut S ns x V b))] t.heap) (fr (List.map Prod.fst [(k0, oK KF k1 k2 k3), (k1, aI cI 12 S), (k2, aI cI 12 U), (k3, aI cI 12 V)]))) args s 0 0 (fr (List.map Prod.fst [(k0, oK KF k1 k2 k3), (k1, aI cI 12 S), (k2, aI cI 12 U), (k3, aI cI 12 V)]))) _
  obtain ⟨Q, hQ⟩ : ∃ Q, Q = MQ below (va_Qi (S := Unit) (fun z _ => z = bI (decide (fnd S x ns < 12))) (fun _ t => va_P D vwCl [(k0, oK (cPutK S ns x KF) k1 k2 k3), (k1, aI cI 12 (cPut S ns x S x)), (k2, aI cI 12 (cPut S ns x U a)), (k3, aI cI 12 (cPut S ns x V b))] t.heap) (fr (List.map Prod.fst [(k0, oK KF k1 k2 k3), (k1, aI cI 12 S), (k2, aI cI 12 U), (k3, aI cI 12 V)]))) args s 0 0 (fr (List.map Prod.fst [(k0, oK KF k1 k2 k3), (k1, aI cI 12 S), (k2, aI cI 12 U), (k3, aI cI 12 V)])) := ⟨_, rfl⟩
  rw [← hQ]
  have hl := lv_entry [.ref k0, .int x, .int a, .int b] (n := 5) (Nat.le_of_ble_eq_true rfl)
  generalize (lg_sl [.ref k0, .int x, .int a, .int b] ++ List.replicate (5 - (lg_sl [.ref k0, .int x, .int a, .int b]).length) Slot.unset).toArray = ls at hl ⊢
  have hl : lv_has ls 5 [(0, .ref k0), (1, .int x), (2, .int a), (3, .int b)] := hl
  obtain ⟨A, hAe⟩ : ∃ A, A = fr (List.map Prod.fst [(k0, oK KF k1 k2 k3), (k1, aI cI 12 S), (k2, aI cI 12 U), (k3, aI cI 12 V)]) := ⟨_, rfl⟩
  have hA0 : ∀ q ∈ List.map Prod.fst [(k0, oK KF k1 k2 k3), (k1, aI cI 12 S), (k2, aI cI 12 U), (k3, aI cI 12 V)], A q := by rw [hAe]; exact fun q h => h
  have hD : va_D A [(k0, oK KF k1 k2 k3), (k1, aI cI 12 S), (k2, aI cI 12 U), (k3, aI cI 12 V)] := sp_D (List.nodup_append.mp (show (([(k0, oK KF k1 k2 k3), (k1, aI cI 12 S), (k2, aI cI 12 U), (k3, aI cI 12 V)] : va_W).map Prod.fst ++ ([] : va_W).map Prod.fst).Nodup by rw [← List.map_append]; exact hN)).1 hA0
  have hN : (List.map Prod.fst ([(k0, oK KF k1 k2 k3), (k1, aI cI 12 S), (k2, aI cI 12 U), (k3, aI cI 12 V)] ++ []) : List Nat).Nodup := hN
  have hS : va_S A s.heap s.heap [] := va_S.rf
  have join36 : ∀ (i : Nat), (i = fnd S x ns) → (i ≤ ns) → ∀ (H : Heap) (locs : List Loc), va_P D vwCl [(k0, oK KF k1 k2 k3), (k1, aI cI 12 S), (k2, aI cI 12 U), (k3, aI cI 12 V)] H → va_D A [(k0, oK KF k1 k2 k3), (k1, aI cI 12 S), (k2, aI cI 12 U), (k3, aI cI 12 V)] → va_S A s.heap H locs → ∀ (ls : Array Slot), lv_has ls 5 [(4, .int (nI i)), (0, .ref k0), (1, .int x), (2, .int a), (3, .int b)] → W p l e rmX1_putStretch s m args below meth c H locs 0 0 Q (F0 m 36 ls []) := by
    intro i ei hi2 H locs hP hD hS ls hl
    refine lv_iload hx hb dX1_putStretch_36 (lv_at hl 0 rfl) ?_
    refine lv_bipush (v := nI 12) hx hb dX1_putStretch_38 (by decide) ?_
    refine sp_lt (by omega) (by omega) (tgt := 45) hx hb dX1_putStretch_40 (by decide) (fun c40 => ?_) (fun c40 => ?_)
    · skip
      refine lv_aload_n hx hb dX1_putStretch_45 rfl (lv_at hl 1 rfl) ?_
      refine va_get (D := D) (ci := 1) (v := .ref k1) (C := RX1) (T := TX1) (N := 5) hx hb hts hiX1 hown hK.1 hP 0 rfl rfl 0 (by decide) (hts (.fieldLink RX1 9 "SledgeRace$Track" "starts" "[I") (by decide +kernel)) (fun _ h9 => h9) rfl dX1_putStretch_46 ?_
      refine lv_iload hx hb dX1_putStretch_49 (lv_at hl 0 rfl) ?_
      refine lv_iload_n hx hb dX1_putStretch_51 rfl (lv_at hl 2 rfl) ?_
      refine sp_iast hx hb hK.1 hP hD hS 1 0 rfl rfl (by omega) (by omega) dX1_putStretch_52 (fun H locs hP hD hS => ?_)
      have hP : va_P D vwCl [(k0, oK KF k1 k2 k3), (k1, aI cI 12 (upd S i x)), (k2, aI cI 12 U), (k3, aI cI 12 V)] H := hP
      have hD : va_D A [(k0, oK KF k1 k2 k3), (k1, aI cI 12 (upd S i x)), (k2, aI cI 12 U), (k3, aI cI 12 V)] := hD
      refine lv_aload_n hx hb dX1_putStretch_53 rfl (lv_at hl 1 rfl) ?_
      refine va_get (D := D) (ci := 1) (v := .ref k2) (C := RX1) (T := TX1) (N := 5) hx hb hts hiX1 hown hK.1 hP 0 rfl rfl 1 (by decide) (hts (.fieldLink RX1 13 "SledgeRace$Track" "slopes" "[I") (by decide +kernel)) (fun _ h9 => h9) rfl dX1_putStretch_54 ?_
      refine lv_iload hx hb dX1_putStretch_57 (lv_at hl 0 rfl) ?_
      refine lv_iload_n hx hb dX1_putStretch_59 rfl (lv_at hl 3 rfl) ?_
      refine sp_iast hx hb hK.1 hP hD hS 2 0 rfl rfl (by omega) (by omega) dX1_putStretch_60 (fun H locs hP hD hS => ?_)
      have hP : va_P D vwCl [(k0, oK KF k1 k2 k3), (k1, aI cI 12 (upd S i x)), (k2, aI cI 12 (upd U i a)), (k3, aI cI 12 V)] H := hP
      have hD : va_D A [(k0, oK KF k1 k2 k3), (k1, aI cI 12 (upd S i x)), (k2, aI cI 12 (upd U i a)), (k3, aI cI 12 V)] := hD
      refine lv_aload_n hx hb dX1_putStretch_61 rfl (lv_at hl 1 rfl) ?_
      refine va_get (D := D) (ci := 1) (v := .ref k3) (C := RX1) (T := TX1) (N := 5) hx hb hts hiX1 hown hK.1 hP 0 rfl rfl 2 (by decide) (hts (.fieldLink RX1 16 "SledgeRace$Track" "softnesses" "[I") (by decide +kernel)) (fun _ h9 => h9) rfl dX1_putStretch_62 ?_
      refine lv_iload hx hb dX1_putStretch_65 (lv_at hl 0 rfl) ?_
      refine lv_iload_n hx hb dX1_putStretch_67 rfl (lv_at hl 4 rfl) ?_
      refine sp_iast hx hb hK.1 hP hD hS 3 0 rfl rfl (by omega) (by omega) dX1_putStretch_68 (fun H locs hP hD hS => ?_)
      have hP : va_P D vwCl [(k0, oK KF k1 k2 k3), (k1, aI cI 12 (upd S i x)), (k2, aI cI 12 (upd U i a)), (k3, aI cI 12 (upd V i b))] H := hP
      have hD : va_D A [(k0, oK KF k1 k2 k3), (k1, aI cI 12 (upd S i x)), (k2, aI cI 12 (upd U i a)), (k3, aI cI 12 (upd V i b))] := hD
      refine lv_iload hx hb dX1_putStretch_69 (lv_at hl 0 rfl) ?_
      refine lv_aload_n hx hb dX1_putStretch_71 rfl (lv_at hl 1 rfl) ?_
      refine va_get (D := D) (ci := 1) (v := .int (nI ns)) (C := RX1) (T := TX1) (N := 5) hx hb hts hiX1 hown hK.1 hP 0 rfl rfl 3 (by decide) (hts (.fieldLink RX1 19 "SledgeRace$Track" "stretches" "I") (by decide +kernel)) (fun _ h9 => h9) (congrArg (fun z => some (Value.int z)) hk) dX1_putStretch_72 ?_
      refine sp_ne (by omega) (by omega) (tgt := 88) hx hb dX1_putStretch_75 (by decide) (fun c75 => ?_) (fun c75 => ?_)
      · skip
        refine lv_iconst (v := 1) hx hb dX1_putStretch_88 (by decide) ?_
        refine sp_top (show 1 = bI (decide (fnd S x ns < 12)) from by rw [← ei, decide_eq_true c40]; rfl) ?_
        subst hQ
        have hP9 : va_P D vwCl [(k0, oK (cPutK S ns x KF) k1 k2 k3), (k1, aI cI 12 (cPut S ns x S x)), (k2, aI cI 12 (cPut S ns x U a)), (k3, aI cI 12 (cPut S ns x V b))] H := by unfold cPut cPutK; rw [← ei]; simp only [if_pos c40, if_neg (fun q : i < 12 ∧ i = ns => c75 q.2)]; exact hP
        subst hAe
        exact W.zret hx hb hr (bI_nar _) (fun t ht hW => ⟨⟨_, (), rfl, rfl, by show va_P D vwCl _ t.heap; rw [ht]; exact hP9⟩, hS.F ht⟩) hS.2.2 dX1_putStretch_89
      · skip
        refine lv_aload_n hx hb dX1_putStretch_78 rfl (lv_at hl 1 rfl) ?_
        refine lv_dup hx hb dX1_putStretch_79 rfl ?_
        refine va_get (D := D) (ci := 1) (v := .int (nI ns)) (C := RX1) (T := TX1) (N := 5) hx hb hts hiX1 hown hK.1 hP 0 rfl rfl 3 (by decide) (hts (.fieldLink RX1 19 "SledgeRace$Track" "stretches" "I") (by decide +kernel)) (fun _ h9 => h9) (congrArg (fun z => some (Value.int z)) hk) dX1_putStretch_80 ?_
        refine lv_iconst (v := 1) hx hb dX1_putStretch_83 (by decide) ?_
        refine lv_iadd hx hb dX1_putStretch_84 ?_
        refine sp_top (nI_1 ns : (nI ns) + 1 = nI (ns + 1)) ?_
        refine va_put (D := D) (ci := 1) (v := .int (nI (ns + 1))) (ty := .int) (C := RX1) (T := TX1) (N := 5) hx hb hts hiX1 tyX1 tyX1_ok nmX1 hown hK.1 hP hD hS 0 rfl rfl 3 (by decide) (hts (.fieldLink RX1 19 "SledgeRace$Track" "stretches" "I") (by decide +kernel)) (fun _ h9 => h9) rfl (by decide +kernel) rfl rfl (Nat.le_of_ble_eq_true rfl) dX1_putStretch_85 (fun H locs hP hD hS => ?_)
        have hP : va_P D vwCl [(k0, oK (upd KF 3 (nI (ns + 1))) k1 k2 k3), (k1, aI cI 12 (upd S i x)), (k2, aI cI 12 (upd U i a)), (k3, aI cI 12 (upd V i b))] H := hP
        have hD : va_D A [(k0, oK (upd KF 3 (nI (ns + 1))) k1 k2 k3), (k1, aI cI 12 (upd S i x)), (k2, aI cI 12 (upd U i a)), (k3, aI cI 12 (upd V i b))] := hD
        refine lv_iconst (v := 1) hx hb dX1_putStretch_88 (by decide) ?_
        refine sp_top (show 1 = bI (decide (fnd S x ns < 12)) from by rw [← ei, decide_eq_true c40]; rfl) ?_
        subst hQ
        have hP9 : va_P D vwCl [(k0, oK (cPutK S ns x KF) k1 k2 k3), (k1, aI cI 12 (cPut S ns x S x)), (k2, aI cI 12 (cPut S ns x U a)), (k3, aI cI 12 (cPut S ns x V b))] H := by unfold cPut cPutK; rw [← ei]; simp only [if_pos c40, if_pos (⟨c40, c75⟩ : i < 12 ∧ i = ns)]; exact hP
        subst hAe
        exact W.zret hx hb hr (bI_nar _) (fun t ht hW => ⟨⟨_, (), rfl, rfl, by show va_P D vwCl _ t.heap; rw [ht]; exact hP9⟩, hS.F ht⟩) hS.2.2 dX1_putStretch_89
    · skip
      refine lv_iconst (v := 0) hx hb dX1_putStretch_43 (by decide) ?_
      refine sp_top (show 0 = bI (decide (fnd S x ns < 12)) from by rw [← ei, decide_eq_false (Nat.not_lt.mpr c40)]; rfl) ?_
      subst hQ
      have hP9 : va_P D vwCl [(k0, oK (cPutK S ns x KF) k1 k2 k3), (k1, aI cI 12 (cPut S ns x S x)), (k2, aI cI 12 (cPut S ns x U a)), (k3, aI cI 12 (cPut S ns x V b))] H := by unfold cPut cPutK; rw [← ei]; simp only [if_neg (Nat.not_lt.mpr c40), if_neg (fun q : i < 12 ∧ i = ns => absurd q.1 (Nat.not_lt.mpr c40))]; exact hP
      subst hAe
      exact W.zret hx hb hr (bI_nar _) (fun t ht hW => ⟨⟨_, (), rfl, rfl, by show va_P D vwCl _ t.heap; rw [ht]; exact hP9⟩, hS.F ht⟩) hS.2.2 dX1_putStretch_44
  obtain ⟨H, hH0⟩ : ∃ H, H = s.heap := ⟨_, rfl⟩
  obtain ⟨locs, hlo⟩ : ∃ L : List Loc, L = [] := ⟨_, rfl⟩
  have hP : va_P D vwCl [(k0, oK KF k1 k2 k3), (k1, aI cI 12 S), (k2, aI cI 12 U), (k3, aI cI 12 V)] H := by rw [hH0]; exact hP
  have hS : va_S A s.heap H locs := by rw [hH0, hlo]; exact hS
  rw [show W p l e rmX1_putStretch s m args below meth c s.heap [] 0 0 Q (F0 m 0 ls []) = W p l e rmX1_putStretch s m args below meth c H locs 0 0 Q (F0 m 0 ls []) by rw [hH0, hlo]]
  clear hH0 hlo
  refine lv_iconst (v := nI 0) hx hb dX1_putStretch_0 (by decide) ?_
  refine lv_istore (lv' := [(4, .int (nI 0)), (0, .ref k0), (1, .int x), (2, .int a), (3, .int b)]) hx hb dX1_putStretch_1 hl (by decide) rfl (fun ls hl => ?_)
  have loop3 : ∀ (fu : Nat) (i : Nat), (ns - i) < fu → (i ≤ ns) → (∀ j, j < i → ¬ S j = x) → ∀ (H : Heap) (locs : List Loc), va_P D vwCl [(k0, oK KF k1 k2 k3), (k1, aI cI 12 S), (k2, aI cI 12 U), (k3, aI cI 12 V)] H → va_D A [(k0, oK KF k1 k2 k3), (k1, aI cI 12 S), (k2, aI cI 12 U), (k3, aI cI 12 V)] → va_S A s.heap H locs → ∀ (ls : Array Slot), lv_has ls 5 [(4, .int (nI i)), (0, .ref k0), (1, .int x), (2, .int a), (3, .int b)] → W p l e rmX1_putStretch s m args below meth c H locs 0 0 Q (F0 m 3 ls []) := by
    intro fu
    induction fu with
    | zero => intro i hfu; exact absurd hfu (Nat.not_lt_zero _)
    | succ fu ih3 =>
      intro i hfu3 hi hno
      intro H locs hP hD hS ls hl
      refine lv_iload hx hb dX1_putStretch_3 (lv_at hl 0 rfl) ?_
      refine lv_aload_n hx hb dX1_putStretch_5 rfl (lv_at hl 1 rfl) ?_
      refine va_get (D := D) (ci := 1) (v := .int (nI ns)) (C := RX1) (T := TX1) (N := 5) hx hb hts hiX1 hown hK.1 hP 0 rfl rfl 3 (by decide) (hts (.fieldLink RX1 19 "SledgeRace$Track" "stretches" "I") (by decide +kernel)) (fun _ h9 => h9) (congrArg (fun z => some (Value.int z)) hk) dX1_putStretch_6 ?_
      refine sp_ge (by omega) (by omega) (tgt := 36) hx hb dX1_putStretch_9 (by decide) (fun c9 => ?_) (fun c9 => ?_)
      · skip
        exact join36 i (fnd_eq hi hno (Or.inl (by omega))) (hi) _ _ hP hD hS ls (lv_sub hl [0, 1, 2, 3, 4] rfl)
      · skip
        refine lv_iload hx hb dX1_putStretch_12 (lv_at hl 0 rfl) ?_
        refine lv_bipush (v := nI 12) hx hb dX1_putStretch_14 (by decide) ?_
        refine sp_ge (by omega) (by omega) (tgt := 36) hx hb dX1_putStretch_16 (by decide) (fun c16 => absurd c16 (by omega)) (fun _ => ?_)
        refine lv_aload_n hx hb dX1_putStretch_19 rfl (lv_at hl 1 rfl) ?_
        refine va_get (D := D) (ci := 1) (v := .ref k1) (C := RX1) (T := TX1) (N := 5) hx hb hts hiX1 hown hK.1 hP 0 rfl rfl 0 (by decide) (hts (.fieldLink RX1 9 "SledgeRace$Track" "starts" "[I") (by decide +kernel)) (fun _ h9 => h9) rfl dX1_putStretch_20 ?_
        refine lv_iload hx hb dX1_putStretch_23 (lv_at hl 0 rfl) ?_
        refine sp_iald hx hb hK.1 hP 1 0 rfl rfl (by omega) (by omega) dX1_putStretch_25 ?_
        refine lv_iload_n hx hb dX1_putStretch_26 rfl (lv_at hl 2 rfl) ?_
        refine lv_icmp_eq (tgt := 36) hx hb dX1_putStretch_27 (by decide) (fun c27 => ?_) (fun c27 => ?_)
        · skip
          exact join36 i (fnd_eq hi hno (Or.inr c27)) (hi) _ _ hP hD hS ls (lv_sub hl [0, 1, 2, 3, 4] rfl)
        · skip
          refine lv_iinc (v := nI (i + 1)) (lv' := [(4, .int (nI (i + 1))), (0, .ref k0), (1, .int x), (2, .int a), (3, .int b)]) hx hb dX1_putStretch_30 hl (k := 0) rfl ((nI_1 i)) (by decide) rfl (fun ls hl => ?_)
          refine lv_goto (tgt := 3) hx hb dX1_putStretch_33 (by decide) ?_
          exact ih3 (i + 1) (by omega) (by omega) (lt_s hno c27) _ _ hP hD hS ls (lv_sub hl [0, 1, 2, 3, 4] rfl)
  exact loop3 _ 0 (Nat.lt_succ_self _) (Nat.zero_le _) (fun j hj => absurd hj (Nat.not_lt_zero j)) _ _ hP hD hS ls (lv_sub hl [0, 1, 2, 3, 4] rfl)

abbrev rmX0_drag : Room := { frames := 2, cells := 0, slots := 0, locals := 44 }
set_option maxHeartbeats 4000000 in
set_option maxRecDepth 100000 in
/-- the drag -/
theorem mX0_drag (l : Launch) (D : va_G) (cI cT : ClassId) (a0 a1 a2 a3 : Nat) (F P : Nat → Int32) (n : Nat) (hn : n ≤ 8) (h3 : F 3 = nI n) (k0 k1 k2 k3 : Nat) (KF S U V : Nat → Int32) (ns : Nat) (hns : ns ≤ 12) (hk : KF 3 = nI ns) : MetR l D cI cT yX0_drag wsX0_drag rmX0_drag [.ref a0, .ref k0] [(a0, oT F a1 a2 a3), (a1, aI cI 8 P), (k0, oK KF k1 k2 k3), (k1, aI cI 12 S), (k2, aI cI 12 U), (k3, aI cI 12 V)] (cDrag F P n (cGr S U ns (F 10)) (cGr S V ns (F 10))) := by
  refine Met.ofW (cc := cX0_drag) (maxL := 8) (ret := (some .int)) (by decide) rfl ?_
  intro p e s m args below meth c s₁ B hml hv
  obtain ⟨hargs, hP, hK⟩ := hv
  have hx := B.exec
  have hb := B.bytes
  have hr := B.returns
  have hts := atoms_spec (ws := wsX0_drag) B.pre
  have hown : s.vm.findClass RX0 = some m.cls := findClass_of_methodNamed B.named
  have hlocks := B.notSynchronized
  have hiX0 : ∀ w ∈ u_ws RX0 TX0 20, w ∈ wsX0_drag := by decide +kernel
  have he : entryFrame m args 8 = F0 m 0 ((lg_sl [.ref a0, .ref k0] ++ List.replicate (8 - (lg_sl [.ref a0, .ref k0]).length) Slot.unset).toArray) [] := by rw [hargs]; exact lg_entry_eq m _ _
  rw [he]
  change W p l e rmX0_drag s m args below meth c s.heap [] 0 0 (MQ below (QcRead (cDrag F P n (cGr S U ns (F 10)) (cGr S V ns (F 10)))) args s 0 0 (fun _ => False)) _
  obtain ⟨Q, hQ⟩ : ∃ Q, Q = MQ below (QcRead (cDrag F P n (cGr S U ns (F 10)) (cGr S V ns (F 10)))) args s 0 0 (fun _ => False) := ⟨_, rfl⟩
  rw [← hQ]
  have hl := lv_entry [.ref a0, .ref k0] (n := 8) (Nat.le_of_ble_eq_true rfl)
  generalize (lg_sl [.ref a0, .ref k0] ++ List.replicate (8 - (lg_sl [.ref a0, .ref k0]).length) Slot.unset).toArray = ls at hl ⊢
  have hl : lv_has ls 8 [(0, .ref a0), (1, .ref k0)] := hl
  refine lv_aload_n hx hb dX0_drag_0 rfl (lv_at hl 1 rfl) ?_
  refine lv_aload_n hx hb dX0_drag_1 rfl (lv_at hl 0 rfl) ?_
  refine va_get (D := D) (ci := 0) (v := .int (F 10)) (C := RX0) (T := TX0) (N := 20) hx hb hts hiX0 hown hK.1 hP 0 rfl rfl 10 (by decide) (hts (.fieldLink RX0 53 "SledgeRace$Team" "front" "I") (by decide +kernel)) (fun _ h9 => h9) rfl dX0_drag_2 ?_
  refine lv_iconst (v := 0) hx hb dX0_drag_5 (by decide) ?_
  refine sp_rV (rest := []) (As := [.int (F 10), .int 0]) ⟨hx, hb, hml, hown, hts⟩ (mX1_groundAt0 l D cI cT k0 k1 k2 k3 KF S U V (F 10)  ns hns hk) (cwV 2 hts gX0_drag_X1_groundAt rfl rfl rfl (by decide +kernel) ⟨Nat.le_of_ble_eq_true rfl, Nat.le_of_ble_eq_true rfl⟩) hK (sp_pick hP [2, 3, 4, 5] rfl) (ci := 1) rfl rfl rfl rfl hl.1 rfl (Nat.le_of_ble_eq_true rfl) dX0_drag_6 ⟨Nat.zero_le _, Nat.zero_le _⟩ ?_
  refine lv_istore_n (lv' := [(2, .int (cGr S U ns (F 10))), (0, .ref a0), (1, .ref k0)]) hx hb dX0_drag_9 rfl hl (by decide) rfl (fun ls hl => ?_)
  refine lv_aload_n hx hb dX0_drag_10 rfl (lv_at hl 2 rfl) ?_
  refine lv_aload_n hx hb dX0_drag_11 rfl (lv_at hl 1 rfl) ?_
  refine va_get (D := D) (ci := 0) (v := .int (F 10)) (C := RX0) (T := TX0) (N := 20) hx hb hts hiX0 hown hK.1 hP 0 rfl rfl 10 (by decide) (hts (.fieldLink RX0 53 "SledgeRace$Team" "front" "I") (by decide +kernel)) (fun _ h9 => h9) rfl dX0_drag_12 ?_
  refine lv_iconst (v := 1) hx hb dX0_drag_15 (by decide) ?_
  refine sp_rV (rest := []) (As := [.int (F 10), .int 1]) ⟨hx, hb, hml, hown, hts⟩ (mX1_groundAt1 l D cI cT k0 k1 k2 k3 KF S U V (F 10)  ns hns hk) (cwV 2 hts gX0_drag_X1_groundAt rfl rfl rfl (by decide +kernel) ⟨Nat.le_of_ble_eq_true rfl, Nat.le_of_ble_eq_true rfl⟩) hK (sp_pick hP [2, 3, 4, 5] rfl) (ci := 1) rfl rfl rfl rfl hl.1 rfl (Nat.le_of_ble_eq_true rfl) dX0_drag_16 ⟨Nat.zero_le _, Nat.zero_le _⟩ ?_
  refine lv_istore_n (lv' := [(3, .int (cGr S V ns (F 10))), (2, .int (cGr S U ns (F 10))), (0, .ref a0), (1, .ref k0)]) hx hb dX0_drag_19 rfl hl (by decide) rfl (fun ls hl => ?_)
  refine lv_iconst (v := 0) hx hb dX0_drag_20 (by decide) ?_
  refine lv_aload_n hx hb dX0_drag_21 rfl (lv_at hl 2 rfl) ?_
  refine va_get (D := D) (ci := 0) (v := .int (F 2)) (C := RX0) (T := TX0) (N := 20) hx hb hts hiX0 hown hK.1 hP 0 rfl rfl 2 (by decide) (hts (.fieldLink RX0 16 "SledgeRace$Team" "weight" "I") (by decide +kernel)) (fun _ h9 => h9) rfl dX0_drag_22 ?_
  refine lv_bipush (v := 20) hx hb dX0_drag_25 (by decide) ?_
  refine lv_bipush (v := 10) hx hb dX0_drag_27 (by decide) ?_
  refine lv_iload_n hx hb dX0_drag_29 rfl (lv_at hl 1 rfl) ?_
  refine lv_imul hx hb dX0_drag_30 ?_
  refine lv_iadd hx hb dX0_drag_31 ?_
  refine lv_iconst (v := 4) hx hb dX0_drag_32 (by decide) ?_
  refine lv_iload_n hx hb dX0_drag_33 rfl (lv_at hl 0 rfl) ?_
  refine lv_imul hx hb dX0_drag_34 ?_
  refine lv_iadd hx hb dX0_drag_35 ?_
  refine lv_imul hx hb dX0_drag_36 ?_
  refine lv_bipush (v := 10) hx hb dX0_drag_37 (by decide) ?_
  refine lv_idiv hx hb dX0_drag_39 (by decide) ?_
  refine va_mmax hx hb (hml.trans hl.1.symm) hown (hts (.methodLink RX0 110 Lib.Math.max.name) (by decide +kernel)) (hts (.static Lib.Math.max.name) (by decide +kernel)) (hts (.initialized "java/lang/Math") (by decide +kernel)) (hts (.code Lib.Math.max.name Lib.Math.max.code 2 (some .int)) (by decide +kernel)) (Nat.le_of_ble_eq_true rfl) (Nat.le_of_ble_eq_true rfl) (Nat.zero_le _) (Nat.zero_le _) dX0_drag_40 ?_
  change W _ _ _ _ _ _ _ _ _ _ _ _ _ _ _ (F0 m 43 ls (.int (imax 0 (((F 2) * ((20 + (10 * (cGr S U ns (F 10)))) + (4 * (cGr S V ns (F 10))))) / 10)) :: _))
  refine lv_istore (lv' := [(4, .int (imax 0 (((F 2) * ((20 + (10 * (cGr S U ns (F 10)))) + (4 * (cGr S V ns (F 10))))) / 10))), (3, .int (cGr S V ns (F 10))), (2, .int (cGr S U ns (F 10))), (0, .ref a0), (1, .ref k0)]) hx hb dX0_drag_43 hl (by decide) rfl (fun ls hl => ?_)
  refine lv_aload_n hx hb dX0_drag_45 rfl (lv_at hl 3 rfl) ?_
  refine lv_iconst (v := 0) hx hb dX0_drag_46 (by decide) ?_
  refine sp_rV (rest := []) (As := [.int 0]) ⟨hx, hb, hml, hown, hts⟩ (mX0_rollersLying l D cI cT a0 a1 a2 a3 F P 0 n hn h3) (cwV 1 hts gX0_drag_X0_rollersLying rfl rfl rfl (by decide +kernel) ⟨Nat.le_of_ble_eq_true rfl, Nat.le_of_ble_eq_true rfl⟩) hK (sp_pick hP [0, 1] rfl) (ci := 0) rfl rfl rfl rfl hl.1 rfl (Nat.le_of_ble_eq_true rfl) dX0_drag_47 ⟨Nat.zero_le _, Nat.zero_le _⟩ ?_
  refine lv_istore (lv' := [(5, .int (nI (cLie F P n 0))), (4, .int (imax 0 (((F 2) * ((20 + (10 * (cGr S U ns (F 10)))) + (4 * (cGr S V ns (F 10))))) / 10))), (3, .int (cGr S V ns (F 10))), (2, .int (cGr S U ns (F 10))), (0, .ref a0), (1, .ref k0)]) hx hb dX0_drag_50 hl (by decide) rfl (fun ls hl => ?_)
  refine lv_iload hx hb dX0_drag_52 (lv_at hl 0 rfl) ?_
  refine lv_iconst (v := 4) hx hb dX0_drag_54 (by decide) ?_
  refine va_mmin hx hb (hml.trans hl.1.symm) hown (hts (.methodLink RX0 123 Lib.Math.min.name) (by decide +kernel)) (hts (.static Lib.Math.min.name) (by decide +kernel)) (hts (.initialized "java/lang/Math") (by decide +kernel)) (hts (.code Lib.Math.min.name Lib.Math.min.code 2 (some .int)) (by decide +kernel)) (Nat.le_of_ble_eq_true rfl) (Nat.le_of_ble_eq_true rfl) (Nat.zero_le _) (Nat.zero_le _) dX0_drag_55 ?_
  change W _ _ _ _ _ _ _ _ _ _ _ _ _ _ _ (F0 m 58 ls (.int (imin (nI (cLie F P n 0)) 4) :: _))
  refine lv_aload_n hx hb dX0_drag_58 rfl (lv_at hl 4 rfl) ?_
  refine va_get (D := D) (ci := 0) (v := .int (F 2)) (C := RX0) (T := TX0) (N := 20) hx hb hts hiX0 hown hK.1 hP 0 rfl rfl 2 (by decide) (hts (.fieldLink RX0 16 "SledgeRace$Team" "weight" "I") (by decide +kernel)) (fun _ h9 => h9) rfl dX0_drag_59 ?_
  refine lv_bipush (v := 6) hx hb dX0_drag_62 (by decide) ?_
  refine lv_iload_n hx hb dX0_drag_64 rfl (lv_at hl 2 rfl) ?_
  refine lv_iconst (v := 2) hx hb dX0_drag_65 (by decide) ?_
  refine lv_idiv hx hb dX0_drag_66 (by decide) ?_
  refine lv_isub hx hb dX0_drag_67 ?_
  refine lv_imul hx hb dX0_drag_68 ?_
  refine lv_bipush (v := 10) hx hb dX0_drag_69 (by decide) ?_
  refine lv_idiv hx hb dX0_drag_71 (by decide) ?_
  refine lv_imul hx hb dX0_drag_72 ?_
  refine lv_istore (lv' := [(6, .int ((imin (nI (cLie F P n 0)) 4) * (((F 2) * (6 - ((cGr S V ns (F 10)) / 2))) / 10))), (5, .int (nI (cLie F P n 0))), (4, .int (imax 0 (((F 2) * ((20 + (10 * (cGr S U ns (F 10)))) + (4 * (cGr S V ns (F 10))))) / 10))), (3, .int (cGr S V ns (F 10))), (2, .int (cGr S U ns (F 10))), (0, .ref a0), (1, .ref k0)]) hx hb dX0_drag_73 hl (by decide) rfl (fun ls hl => ?_)
  refine lv_iload hx hb dX0_drag_75 (lv_at hl 2 rfl) ?_
  refine lv_iload hx hb dX0_drag_77 (lv_at hl 0 rfl) ?_
  refine lv_isub hx hb dX0_drag_79 ?_
  refine lv_aload_n hx hb dX0_drag_80 rfl (lv_at hl 5 rfl) ?_
  refine va_get (D := D) (ci := 0) (v := .int (F 2)) (C := RX0) (T := TX0) (N := 20) hx hb hts hiX0 hown hK.1 hP 0 rfl rfl 2 (by decide) (hts (.fieldLink RX0 16 "SledgeRace$Team" "weight" "I") (by decide +kernel)) (fun _ h9 => h9) rfl dX0_drag_81 ?_
  refine lv_bipush (v := 10) hx hb dX0_drag_84 (by decide) ?_
  refine lv_idiv hx hb dX0_drag_86 (by decide) ?_
  refine va_mmax hx hb (hml.trans hl.1.symm) hown (hts (.methodLink RX0 110 Lib.Math.max.name) (by decide +kernel)) (hts (.static Lib.Math.max.name) (by decide +kernel)) (hts (.initialized "java/lang/Math") (by decide +kernel)) (hts (.code Lib.Math.max.name Lib.Math.max.code 2 (some .int)) (by decide +kernel)) (Nat.le_of_ble_eq_true rfl) (Nat.le_of_ble_eq_true rfl) (Nat.zero_le _) (Nat.zero_le _) dX0_drag_87 ?_
  change W _ _ _ _ _ _ _ _ _ _ _ _ _ _ _ (F0 m 90 ls (.int (imax ((imax 0 (((F 2) * ((20 + (10 * (cGr S U ns (F 10)))) + (4 * (cGr S V ns (F 10))))) / 10)) - ((imin (nI (cLie F P n 0)) 4) * (((F 2) * (6 - ((cGr S V ns (F 10)) / 2))) / 10))) ((F 2) / 10)) :: _))
  refine lv_istore (lv' := [(7, .int (imax ((imax 0 (((F 2) * ((20 + (10 * (cGr S U ns (F 10)))) + (4 * (cGr S V ns (F 10))))) / 10)) - ((imin (nI (cLie F P n 0)) 4) * (((F 2) * (6 - ((cGr S V ns (F 10)) / 2))) / 10))) ((F 2) / 10))), (6, .int ((imin (nI (cLie F P n 0)) 4) * (((F 2) * (6 - ((cGr S V ns (F 10)) / 2))) / 10))), (5, .int (nI (cLie F P n 0))), (4, .int (imax 0 (((F 2) * ((20 + (10 * (cGr S U ns (F 10)))) + (4 * (cGr S V ns (F 10))))) / 10))), (3, .int (cGr S V ns (F 10))), (2, .int (cGr S U ns (F 10))), (0, .ref a0), (1, .ref k0)]) hx hb dX0_drag_90 hl (by decide) rfl (fun ls hl => ?_)
  refine lv_iload hx hb dX0_drag_92 (lv_at hl 2 rfl) ?_
  refine lv_iconst (v := 2) hx hb dX0_drag_94 (by decide) ?_
  refine lx_icmp_ge (tgt := 105) hx hb dX0_drag_95 (by decide) (fun c95 => ?_) (fun c95 => ?_)
  · skip
    refine lv_iload hx hb dX0_drag_105 (lv_at hl 0 rfl) ?_
    refine sp_top (show imax ((imax 0 (((F 2) * ((20 + (10 * (cGr S U ns (F 10)))) + (4 * (cGr S V ns (F 10))))) / 10)) - ((imin (nI (cLie F P n 0)) 4) * (((F 2) * (6 - ((cGr S V ns (F 10)) / 2))) / 10))) ((F 2) / 10) = cDrag F P n (cGr S U ns (F 10)) (cGr S V ns (F 10)) from by unfold cDrag; rw [if_neg c95]; rfl) ?_
    subst hQ
    exact W.iret hx hb hr (fun t ht _ => ⟨rfl, ht⟩) (fun _ h => nomatch h) dX0_drag_107
  · skip
    refine lv_iconst (v := 2) hx hb dX0_drag_98 (by decide) ?_
    refine lv_iload hx hb dX0_drag_99 (lv_at hl 0 rfl) ?_
    refine lv_imul hx hb dX0_drag_101 ?_
    refine lv_goto (tgt := 107) hx hb dX0_drag_102 (by decide) ?_
    refine sp_top (show 2 * (imax ((imax 0 (((F 2) * ((20 + (10 * (cGr S U ns (F 10)))) + (4 * (cGr S V ns (F 10))))) / 10)) - ((imin (nI (cLie F P n 0)) 4) * (((F 2) * (6 - ((cGr S V ns (F 10)) / 2))) / 10))) ((F 2) / 10)) = cDrag F P n (cGr S U ns (F 10)) (cGr S V ns (F 10)) from by unfold cDrag; rw [if_pos c95]; rfl) ?_
    subst hQ
    exact W.iret hx hb hr (fun t ht _ => ⟨rfl, ht⟩) (fun _ h => nomatch h) dX0_drag_107

abbrev rmX0_isAheadOf : Room := { frames := 1, cells := 0, slots := 0, locals := 20 }
set_option maxHeartbeats 4000000 in
set_option maxRecDepth 100000 in
/-- is it ahead of another one -/
theorem mX0_isAheadOf (l : Launch) (D : va_G) (cI cT : ClassId) (a0 a1 a2 a3 b0 b1 b2 b3 : Nat) (F E : Nat → Int32) : MetR l D cI cT yX0_isAheadOf wsX0_isAheadOf rmX0_isAheadOf [.ref a0, .ref b0] [(a0, oT F a1 a2 a3), (b0, oT E b1 b2 b3)] (bI (cAhead F E)) := by
  refine Met.ofW (cc := cX0_isAheadOf) (maxL := 2) (ret := (some .boolean)) (by decide) rfl ?_
  intro p e s m args below meth c s₁ B hml hv
  obtain ⟨hargs, hP, hK⟩ := hv
  have hx := B.exec
  have hb := B.bytes
  have hr := B.returns
  have hts := atoms_spec (ws := wsX0_isAheadOf) B.pre
  have hown : s.vm.findClass RX0 = some m.cls := findClass_of_methodNamed B.named
  have hlocks := B.notSynchronized
  have hiX0 : ∀ w ∈ u_ws RX0 TX0 20, w ∈ wsX0_isAheadOf := by decide +kernel
  have he : entryFrame m args 2 = F0 m 0 ((lg_sl [.ref a0, .ref b0] ++ List.replicate (2 - (lg_sl [.ref a0, .ref b0]).length) Slot.unset).toArray) [] := by rw [hargs]; exact lg_entry_eq m _ _
  rw [he]
  change W p l e rmX0_isAheadOf s m args below meth c s.heap [] 0 0 (MQ below (QcRead (bI (cAhead F E))) args s 0 0 (fun _ => False)) _
  obtain ⟨Q, hQ⟩ : ∃ Q, Q = MQ below (QcRead (bI (cAhead F E))) args s 0 0 (fun _ => False) := ⟨_, rfl⟩
  rw [← hQ]
  have hl := lv_entry [.ref a0, .ref b0] (n := 2) (Nat.le_of_ble_eq_true rfl)
  generalize (lg_sl [.ref a0, .ref b0] ++ List.replicate (2 - (lg_sl [.ref a0, .ref b0]).length) Slot.unset).toArray = ls at hl ⊢
  have hl : lv_has ls 2 [(0, .ref a0), (1, .ref b0)] := hl
  refine lv_aload_n hx hb dX0_isAheadOf_0 rfl (lv_at hl 0 rfl) ?_
  refine sp_rV (rest := []) (As := []) ⟨hx, hb, hml, hown, hts⟩ (mX0_isAtEnd l D cI cT a0 a1 a2 a3 F ) (cwV 0 hts gX0_isAheadOf_X0_isAtEnd rfl rfl rfl (by decide +kernel) ⟨Nat.le_of_ble_eq_true rfl, Nat.le_of_ble_eq_true rfl⟩) hK (sp_pick hP [0] rfl) (ci := 0) rfl rfl rfl rfl hl.1 rfl (Nat.le_of_ble_eq_true rfl) dX0_isAheadOf_1 ⟨Nat.zero_le _, Nat.zero_le _⟩ ?_
  refine lv_aload_n hx hb dX0_isAheadOf_4 rfl (lv_at hl 1 rfl) ?_
  refine sp_rV (rest := [.int (bI (cE F))]) (As := []) ⟨hx, hb, hml, hown, hts⟩ (mX0_isAtEnd l D cI cT b0 b1 b2 b3 E ) (cwV 0 hts gX0_isAheadOf_X0_isAtEnd rfl rfl rfl (by decide +kernel) ⟨Nat.le_of_ble_eq_true rfl, Nat.le_of_ble_eq_true rfl⟩) hK (sp_pick hP [1] rfl) (ci := 0) rfl rfl rfl rfl hl.1 rfl (Nat.le_of_ble_eq_true rfl) dX0_isAheadOf_5 ⟨Nat.zero_le _, Nat.zero_le _⟩ ?_
  refine sp_beq (tgt := 16) hx hb dX0_isAheadOf_8 (by decide) (fun c8 => ?_) (fun c8 => ?_)
  · skip
    refine lv_aload_n hx hb dX0_isAheadOf_16 rfl (lv_at hl 0 rfl) ?_
    refine sp_rV (rest := []) (As := []) ⟨hx, hb, hml, hown, hts⟩ (mX0_isAtEnd l D cI cT a0 a1 a2 a3 F ) (cwV 0 hts gX0_isAheadOf_X0_isAtEnd rfl rfl rfl (by decide +kernel) ⟨Nat.le_of_ble_eq_true rfl, Nat.le_of_ble_eq_true rfl⟩) hK (sp_pick hP [0] rfl) (ci := 0) rfl rfl rfl rfl hl.1 rfl (Nat.le_of_ble_eq_true rfl) dX0_isAheadOf_17 ⟨Nat.zero_le _, Nat.zero_le _⟩ ?_
    refine sp_if_eq (tgt := 51) hx hb dX0_isAheadOf_20 (by decide) (fun c20 => ?_) (fun c20 => ?_)
    · skip
      refine lv_aload_n hx hb dX0_isAheadOf_51 rfl (lv_at hl 0 rfl) ?_
      refine sp_rV (rest := []) (As := []) ⟨hx, hb, hml, hown, hts⟩ (mX0_isAtEnd l D cI cT a0 a1 a2 a3 F ) (cwV 0 hts gX0_isAheadOf_X0_isAtEnd rfl rfl rfl (by decide +kernel) ⟨Nat.le_of_ble_eq_true rfl, Nat.le_of_ble_eq_true rfl⟩) hK (sp_pick hP [0] rfl) (ci := 0) rfl rfl rfl rfl hl.1 rfl (Nat.le_of_ble_eq_true rfl) dX0_isAheadOf_52 ⟨Nat.zero_le _, Nat.zero_le _⟩ ?_
      refine sp_if_ne (tgt := 86) hx hb dX0_isAheadOf_55 (by decide) (fun c55 => absurd (c20.symm.trans c55) (by decide)) (fun _ => ?_)
      refine lv_aload_n hx hb dX0_isAheadOf_58 rfl (lv_at hl 0 rfl) ?_
      refine va_get (D := D) (ci := 0) (v := .int (F 10)) (C := RX0) (T := TX0) (N := 20) hx hb hts hiX0 hown hK.1 hP 0 rfl rfl 10 (by decide) (hts (.fieldLink RX0 53 "SledgeRace$Team" "front" "I") (by decide +kernel)) (fun _ h9 => h9) rfl dX0_isAheadOf_59 ?_
      refine lv_aload_n hx hb dX0_isAheadOf_62 rfl (lv_at hl 1 rfl) ?_
      refine va_get (D := D) (ci := 0) (v := .int (E 10)) (C := RX0) (T := TX0) (N := 20) hx hb hts hiX0 hown hK.1 hP 1 rfl rfl 10 (by decide) (hts (.fieldLink RX0 53 "SledgeRace$Team" "front" "I") (by decide +kernel)) (fun _ h9 => h9) rfl dX0_isAheadOf_63 ?_
      refine lv_icmp_eq (tgt := 86) hx hb dX0_isAheadOf_66 (by decide) (fun c66 => ?_) (fun c66 => ?_)
      · skip
        refine lv_aload_n hx hb dX0_isAheadOf_86 rfl (lv_at hl 0 rfl) ?_
        refine va_get (D := D) (ci := 0) (v := .int (F 0)) (C := RX0) (T := TX0) (N := 20) hx hb hts hiX0 hown hK.1 hP 0 rfl rfl 0 (by decide) (hts (.fieldLink RX0 7 "SledgeRace$Team" "number" "I") (by decide +kernel)) (fun _ h9 => h9) rfl dX0_isAheadOf_87 ?_
        refine lv_aload_n hx hb dX0_isAheadOf_90 rfl (lv_at hl 1 rfl) ?_
        refine va_get (D := D) (ci := 0) (v := .int (E 0)) (C := RX0) (T := TX0) (N := 20) hx hb hts hiX0 hown hK.1 hP 1 rfl rfl 0 (by decide) (hts (.fieldLink RX0 7 "SledgeRace$Team" "number" "I") (by decide +kernel)) (fun _ h9 => h9) rfl dX0_isAheadOf_91 ?_
        refine lx_icmp_ge (tgt := 101) hx hb dX0_isAheadOf_94 (by decide) (fun c94 => ?_) (fun c94 => ?_)
        · skip
          refine lv_iconst (v := 0) hx hb dX0_isAheadOf_101 (by decide) ?_
          refine sp_top (show 0 = bI (cAhead F E) from by unfold cAhead; rw [if_neg (not_not_intro c8), if_neg (fun q => absurd (c20.symm.trans q.1) (by decide)), if_neg (fun q => q.2 c66), decide_eq_false c94]; rfl) ?_
          subst hQ
          exact W.zret hx hb hr (bI_nar _) (fun t ht _ => ⟨rfl, ht⟩) (fun _ h => nomatch h) dX0_isAheadOf_102
        · skip
          refine lv_iconst (v := 1) hx hb dX0_isAheadOf_97 (by decide) ?_
          refine lv_goto (tgt := 102) hx hb dX0_isAheadOf_98 (by decide) ?_
          refine sp_top (show 1 = bI (cAhead F E) from by unfold cAhead; rw [if_neg (not_not_intro c8), if_neg (fun q => absurd (c20.symm.trans q.1) (by decide)), if_neg (fun q => q.2 c66), decide_eq_true c94]; rfl) ?_
          subst hQ
          exact W.zret hx hb hr (bI_nar _) (fun t ht _ => ⟨rfl, ht⟩) (fun _ h => nomatch h) dX0_isAheadOf_102
      · skip
        refine lv_aload_n hx hb dX0_isAheadOf_69 rfl (lv_at hl 0 rfl) ?_
        refine va_get (D := D) (ci := 0) (v := .int (F 10)) (C := RX0) (T := TX0) (N := 20) hx hb hts hiX0 hown hK.1 hP 0 rfl rfl 10 (by decide) (hts (.fieldLink RX0 53 "SledgeRace$Team" "front" "I") (by decide +kernel)) (fun _ h9 => h9) rfl dX0_isAheadOf_70 ?_
        refine lv_aload_n hx hb dX0_isAheadOf_73 rfl (lv_at hl 1 rfl) ?_
        refine va_get (D := D) (ci := 0) (v := .int (E 10)) (C := RX0) (T := TX0) (N := 20) hx hb hts hiX0 hown hK.1 hP 1 rfl rfl 10 (by decide) (hts (.fieldLink RX0 53 "SledgeRace$Team" "front" "I") (by decide +kernel)) (fun _ h9 => h9) rfl dX0_isAheadOf_74 ?_
        refine lx_icmp_le (tgt := 84) hx hb dX0_isAheadOf_77 (by decide) (fun c77 => ?_) (fun c77 => ?_)
        · skip
          refine lv_iconst (v := 0) hx hb dX0_isAheadOf_84 (by decide) ?_
          refine sp_top (show 0 = bI (cAhead F E) from by unfold cAhead; rw [if_neg (not_not_intro c8), if_neg (fun q => absurd (c20.symm.trans q.1) (by decide)), if_pos ⟨c20, c66⟩, decide_eq_false c77]; rfl) ?_
          subst hQ
          exact W.zret hx hb hr (bI_nar _) (fun t ht _ => ⟨rfl, ht⟩) (fun _ h => nomatch h) dX0_isAheadOf_85
        · skip
          refine lv_iconst (v := 1) hx hb dX0_isAheadOf_80 (by decide) ?_
          refine lv_goto (tgt := 85) hx hb dX0_isAheadOf_81 (by decide) ?_
          refine sp_top (show 1 = bI (cAhead F E) from by unfold cAhead; rw [if_neg (not_not_intro c8), if_neg (fun q => absurd (c20.symm.trans q.1) (by decide)), if_pos ⟨c20, c66⟩, decide_eq_true c77]; rfl) ?_
          subst hQ
          exact W.zret hx hb hr (bI_nar _) (fun t ht _ => ⟨rfl, ht⟩) (fun _ h => nomatch h) dX0_isAheadOf_85
    · skip
      refine lv_aload_n hx hb dX0_isAheadOf_23 rfl (lv_at hl 0 rfl) ?_
      refine va_get (D := D) (ci := 0) (v := .int (F 16)) (C := RX0) (T := TX0) (N := 20) hx hb hts hiX0 hown hK.1 hP 0 rfl rfl 16 (by decide) (hts (.fieldLink RX0 71 "SledgeRace$Team" "endTick" "I") (by decide +kernel)) (fun _ h9 => h9) rfl dX0_isAheadOf_24 ?_
      refine lv_aload_n hx hb dX0_isAheadOf_27 rfl (lv_at hl 1 rfl) ?_
      refine va_get (D := D) (ci := 0) (v := .int (E 16)) (C := RX0) (T := TX0) (N := 20) hx hb hts hiX0 hown hK.1 hP 1 rfl rfl 16 (by decide) (hts (.fieldLink RX0 71 "SledgeRace$Team" "endTick" "I") (by decide +kernel)) (fun _ h9 => h9) rfl dX0_isAheadOf_28 ?_
      refine lv_icmp_eq (tgt := 51) hx hb dX0_isAheadOf_31 (by decide) (fun c31 => ?_) (fun c31 => ?_)
      · skip
        refine lv_aload_n hx hb dX0_isAheadOf_51 rfl (lv_at hl 0 rfl) ?_
        refine sp_rV (rest := []) (As := []) ⟨hx, hb, hml, hown, hts⟩ (mX0_isAtEnd l D cI cT a0 a1 a2 a3 F ) (cwV 0 hts gX0_isAheadOf_X0_isAtEnd rfl rfl rfl (by decide +kernel) ⟨Nat.le_of_ble_eq_true rfl, Nat.le_of_ble_eq_true rfl⟩) hK (sp_pick hP [0] rfl) (ci := 0) rfl rfl rfl rfl hl.1 rfl (Nat.le_of_ble_eq_true rfl) dX0_isAheadOf_52 ⟨Nat.zero_le _, Nat.zero_le _⟩ ?_
        refine sp_if_ne (tgt := 86) hx hb dX0_isAheadOf_55 (by decide) (fun _ => ?_) (fun c55 => absurd (c20.symm.trans c55) (by decide))
        refine lv_aload_n hx hb dX0_isAheadOf_86 rfl (lv_at hl 0 rfl) ?_
        refine va_get (D := D) (ci := 0) (v := .int (F 0)) (C := RX0) (T := TX0) (N := 20) hx hb hts hiX0 hown hK.1 hP 0 rfl rfl 0 (by decide) (hts (.fieldLink RX0 7 "SledgeRace$Team" "number" "I") (by decide +kernel)) (fun _ h9 => h9) rfl dX0_isAheadOf_87 ?_
        refine lv_aload_n hx hb dX0_isAheadOf_90 rfl (lv_at hl 1 rfl) ?_
        refine va_get (D := D) (ci := 0) (v := .int (E 0)) (C := RX0) (T := TX0) (N := 20) hx hb hts hiX0 hown hK.1 hP 1 rfl rfl 0 (by decide) (hts (.fieldLink RX0 7 "SledgeRace$Team" "number" "I") (by decide +kernel)) (fun _ h9 => h9) rfl dX0_isAheadOf_91 ?_
        refine lx_icmp_ge (tgt := 101) hx hb dX0_isAheadOf_94 (by decide) (fun c94 => ?_) (fun c94 => ?_)
        · skip
          refine lv_iconst (v := 0) hx hb dX0_isAheadOf_101 (by decide) ?_
          refine sp_top (show 0 = bI (cAhead F E) from by unfold cAhead; rw [if_neg (not_not_intro c8), if_neg (fun q => q.2 c31), if_neg (fun q => absurd (c20.symm.trans q.1) (by decide)), decide_eq_false c94]; rfl) ?_
          subst hQ
          exact W.zret hx hb hr (bI_nar _) (fun t ht _ => ⟨rfl, ht⟩) (fun _ h => nomatch h) dX0_isAheadOf_102
        · skip
          refine lv_iconst (v := 1) hx hb dX0_isAheadOf_97 (by decide) ?_
          refine lv_goto (tgt := 102) hx hb dX0_isAheadOf_98 (by decide) ?_
          refine sp_top (show 1 = bI (cAhead F E) from by unfold cAhead; rw [if_neg (not_not_intro c8), if_neg (fun q => q.2 c31), if_neg (fun q => absurd (c20.symm.trans q.1) (by decide)), decide_eq_true c94]; rfl) ?_
          subst hQ
          exact W.zret hx hb hr (bI_nar _) (fun t ht _ => ⟨rfl, ht⟩) (fun _ h => nomatch h) dX0_isAheadOf_102
      · skip
        refine lv_aload_n hx hb dX0_isAheadOf_34 rfl (lv_at hl 0 rfl) ?_
        refine va_get (D := D) (ci := 0) (v := .int (F 16)) (C := RX0) (T := TX0) (N := 20) hx hb hts hiX0 hown hK.1 hP 0 rfl rfl 16 (by decide) (hts (.fieldLink RX0 71 "SledgeRace$Team" "endTick" "I") (by decide +kernel)) (fun _ h9 => h9) rfl dX0_isAheadOf_35 ?_
        refine lv_aload_n hx hb dX0_isAheadOf_38 rfl (lv_at hl 1 rfl) ?_
        refine va_get (D := D) (ci := 0) (v := .int (E 16)) (C := RX0) (T := TX0) (N := 20) hx hb hts hiX0 hown hK.1 hP 1 rfl rfl 16 (by decide) (hts (.fieldLink RX0 71 "SledgeRace$Team" "endTick" "I") (by decide +kernel)) (fun _ h9 => h9) rfl dX0_isAheadOf_39 ?_
        refine lx_icmp_ge (tgt := 49) hx hb dX0_isAheadOf_42 (by decide) (fun c42 => ?_) (fun c42 => ?_)
        · skip
          refine lv_iconst (v := 0) hx hb dX0_isAheadOf_49 (by decide) ?_
          refine sp_top (show 0 = bI (cAhead F E) from by unfold cAhead; rw [if_neg (not_not_intro c8), if_pos ⟨c20, c31⟩, decide_eq_false c42]; rfl) ?_
          subst hQ
          exact W.zret hx hb hr (bI_nar _) (fun t ht _ => ⟨rfl, ht⟩) (fun _ h => nomatch h) dX0_isAheadOf_50
        · skip
          refine lv_iconst (v := 1) hx hb dX0_isAheadOf_45 (by decide) ?_
          refine lv_goto (tgt := 50) hx hb dX0_isAheadOf_46 (by decide) ?_
          refine sp_top (show 1 = bI (cAhead F E) from by unfold cAhead; rw [if_neg (not_not_intro c8), if_pos ⟨c20, c31⟩, decide_eq_true c42]; rfl) ?_
          subst hQ
          exact W.zret hx hb hr (bI_nar _) (fun t ht _ => ⟨rfl, ht⟩) (fun _ h => nomatch h) dX0_isAheadOf_50
  · skip
    refine lv_aload_n hx hb dX0_isAheadOf_11 rfl (lv_at hl 0 rfl) ?_
    refine sp_rV (rest := []) (As := []) ⟨hx, hb, hml, hown, hts⟩ (mX0_isAtEnd l D cI cT a0 a1 a2 a3 F ) (cwV 0 hts gX0_isAheadOf_X0_isAtEnd rfl rfl rfl (by decide +kernel) ⟨Nat.le_of_ble_eq_true rfl, Nat.le_of_ble_eq_true rfl⟩) hK (sp_pick hP [0] rfl) (ci := 0) rfl rfl rfl rfl hl.1 rfl (Nat.le_of_ble_eq_true rfl) dX0_isAheadOf_12 ⟨Nat.zero_le _, Nat.zero_le _⟩ ?_
    refine sp_top (show bI (cE F) = bI (cAhead F E) from by unfold cAhead; rw [if_pos c8]) ?_
    subst hQ
    exact W.zret hx hb hr (bI_nar _) (fun t ht _ => ⟨rfl, ht⟩) (fun _ h => nomatch h) dX0_isAheadOf_15

abbrev rmX0_fact : Room := { frames := 2, cells := 0, slots := 0, locals := 44 }
set_option maxHeartbeats 4000000 in
set_option maxRecDepth 100000 in
/-- what team() tells -/
theorem mX0_fact (l : Launch) (D : va_G) (cI cT : ClassId) (a0 a1 a2 a3 : Nat) (F P : Nat → Int32) (w : Int32) (n : Nat) (hn : n ≤ 8) (h3 : F 3 = nI n) : MetR l D cI cT yX0_fact wsX0_fact rmX0_fact [.ref a0, .int w] [(a0, oT F a1 a2 a3), (a1, aI cI 8 P)] (cFact F P n w) := by
  refine Met.ofW (cc := cX0_fact) (maxL := 2) (ret := (some .int)) (by decide) rfl ?_
  intro p e s m args below meth c s₁ B hml hv
  obtain ⟨hargs, hP, hK⟩ := hv
  have hx := B.exec
  have hb := B.bytes
  have hr := B.returns
  have hts := atoms_spec (ws := wsX0_fact) B.pre
  have hown : s.vm.findClass RX0 = some m.cls := findClass_of_methodNamed B.named
  have hlocks := B.notSynchronized
  have hiX0 : ∀ w ∈ u_ws RX0 TX0 20, w ∈ wsX0_fact := by decide +kernel
  have he : entryFrame m args 2 = F0 m 0 ((lg_sl [.ref a0, .int w] ++ List.replicate (2 - (lg_sl [.ref a0, .int w]).length) Slot.unset).toArray) [] := by rw [hargs]; exact lg_entry_eq m _ _
  rw [he]
  change W p l e rmX0_fact s m args below meth c s.heap [] 0 0 (MQ below (QcRead (cFact F P n w)) args s 0 0 (fun _ => False)) _
  obtain ⟨Q, hQ⟩ : ∃ Q, Q = MQ below (QcRead (cFact F P n w)) args s 0 0 (fun _ => False) := ⟨_, rfl⟩
  rw [← hQ]
  have hl := lv_entry [.ref a0, .int w] (n := 2) (Nat.le_of_ble_eq_true rfl)
  generalize (lg_sl [.ref a0, .int w] ++ List.replicate (2 - (lg_sl [.ref a0, .int w]).length) Slot.unset).toArray = ls at hl ⊢
  have hl : lv_has ls 2 [(0, .ref a0), (1, .int w)] := hl
  refine lv_iload_n hx hb dX0_fact_0 rfl (lv_at hl 1 rfl) ?_
  by_cases z0 : w = 0
  · subst z0
    refine lv_tableIn (tgt := 60) hx hb dX0_fact_1 (by decide) (by decide) rfl (by decide) ?_
    refine lv_aload_n hx hb dX0_fact_60 rfl (lv_at hl 0 rfl) ?_
    refine va_get (D := D) (ci := 0) (v := .int (F 10)) (C := RX0) (T := TX0) (N := 20) hx hb hts hiX0 hown hK.1 hP 0 rfl rfl 10 (by decide) (hts (.fieldLink RX0 53 "SledgeRace$Team" "front" "I") (by decide +kernel)) (fun _ h9 => h9) rfl dX0_fact_61 ?_
    refine sp_top (show F 10 = cFact F P n 0 from rfl ) ?_
    subst hQ
    exact W.iret hx hb hr (fun t ht _ => ⟨rfl, ht⟩) (fun _ h => nomatch h) dX0_fact_64
  by_cases z1 : w = 1
  · subst z1
    refine lv_tableIn (tgt := 65) hx hb dX0_fact_1 (by decide) (by decide) rfl (by decide) ?_
    refine lv_aload_n hx hb dX0_fact_65 rfl (lv_at hl 0 rfl) ?_
    refine va_get (D := D) (ci := 0) (v := .int (F 11)) (C := RX0) (T := TX0) (N := 20) hx hb hts hiX0 hown hK.1 hP 0 rfl rfl 11 (by decide) (hts (.fieldLink RX0 56 "SledgeRace$Team" "breath" "I") (by decide +kernel)) (fun _ h9 => h9) rfl dX0_fact_66 ?_
    refine sp_top (show F 11 = cFact F P n 1 from rfl ) ?_
    subst hQ
    exact W.iret hx hb hr (fun t ht _ => ⟨rfl, ht⟩) (fun _ h => nomatch h) dX0_fact_69
  by_cases z2 : w = 2
  · subst z2
    refine lv_tableIn (tgt := 70) hx hb dX0_fact_1 (by decide) (by decide) rfl (by decide) ?_
    refine lv_aload_n hx hb dX0_fact_70 rfl (lv_at hl 0 rfl) ?_
    refine va_get (D := D) (ci := 0) (v := .int (F 12)) (C := RX0) (T := TX0) (N := 20) hx hb hts hiX0 hown hK.1 hP 0 rfl rfl 12 (by decide) (hts (.fieldLink RX0 59 "SledgeRace$Team" "rope" "I") (by decide +kernel)) (fun _ h9 => h9) rfl dX0_fact_71 ?_
    refine sp_top (show F 12 = cFact F P n 2 from rfl ) ?_
    subst hQ
    exact W.iret hx hb hr (fun t ht _ => ⟨rfl, ht⟩) (fun _ h => nomatch h) dX0_fact_74
  by_cases z3 : w = 3
  · subst z3
    refine lv_tableIn (tgt := 75) hx hb dX0_fact_1 (by decide) (by decide) rfl (by decide) ?_
    refine lv_aload_n hx hb dX0_fact_75 rfl (lv_at hl 0 rfl) ?_
    refine va_get (D := D) (ci := 0) (v := .int (F 13)) (C := RX0) (T := TX0) (N := 20) hx hb hts hiX0 hown hK.1 hP 0 rfl rfl 13 (by decide) (hts (.fieldLink RX0 62 "SledgeRace$Team" "knotting" "I") (by decide +kernel)) (fun _ h9 => h9) rfl dX0_fact_76 ?_
    refine sp_top (show F 13 = cFact F P n 3 from rfl ) ?_
    subst hQ
    exact W.iret hx hb hr (fun t ht _ => ⟨rfl, ht⟩) (fun _ h => nomatch h) dX0_fact_79
  by_cases z4 : w = 4
  · subst z4
    refine lv_tableIn (tgt := 80) hx hb dX0_fact_1 (by decide) (by decide) rfl (by decide) ?_
    refine lv_aload_n hx hb dX0_fact_80 rfl (lv_at hl 0 rfl) ?_
    refine lv_iconst (v := 0) hx hb dX0_fact_81 (by decide) ?_
    refine sp_rV (rest := []) (As := [.int 0]) ⟨hx, hb, hml, hown, hts⟩ (mX0_rollersLying l D cI cT a0 a1 a2 a3 F P 0 n hn h3) (cwV 1 hts gX0_fact_X0_rollersLying rfl rfl rfl (by decide +kernel) ⟨Nat.le_of_ble_eq_true rfl, Nat.le_of_ble_eq_true rfl⟩) hK (sp_pick hP [0, 1] rfl) (ci := 0) rfl rfl rfl rfl hl.1 rfl (Nat.le_of_ble_eq_true rfl) dX0_fact_82 ⟨Nat.zero_le _, Nat.zero_le _⟩ ?_
    refine sp_top (show nI (cLie F P n 0) = cFact F P n 4 from rfl ) ?_
    subst hQ
    exact W.iret hx hb hr (fun t ht _ => ⟨rfl, ht⟩) (fun _ h => nomatch h) dX0_fact_85
  by_cases z5 : w = 5
  · subst z5
    refine lv_tableIn (tgt := 86) hx hb dX0_fact_1 (by decide) (by decide) rfl (by decide) ?_
    refine lv_aload_n hx hb dX0_fact_86 rfl (lv_at hl 0 rfl) ?_
    refine lv_iconst (v := 1) hx hb dX0_fact_87 (by decide) ?_
    refine sp_rV (rest := []) (As := [.int 1]) ⟨hx, hb, hml, hown, hts⟩ (mX0_rollersLying l D cI cT a0 a1 a2 a3 F P 1 n hn h3) (cwV 1 hts gX0_fact_X0_rollersLying rfl rfl rfl (by decide +kernel) ⟨Nat.le_of_ble_eq_true rfl, Nat.le_of_ble_eq_true rfl⟩) hK (sp_pick hP [0, 1] rfl) (ci := 0) rfl rfl rfl rfl hl.1 rfl (Nat.le_of_ble_eq_true rfl) dX0_fact_88 ⟨Nat.zero_le _, Nat.zero_le _⟩ ?_
    refine sp_top (show nI (cLie F P n 1) = cFact F P n 5 from rfl ) ?_
    subst hQ
    exact W.iret hx hb hr (fun t ht _ => ⟨rfl, ht⟩) (fun _ h => nomatch h) dX0_fact_91
  by_cases z6 : w = 6
  · subst z6
    refine lv_tableIn (tgt := 92) hx hb dX0_fact_1 (by decide) (by decide) rfl (by decide) ?_
    refine lv_aload_n hx hb dX0_fact_92 rfl (lv_at hl 0 rfl) ?_
    refine lv_iconst (v := 2) hx hb dX0_fact_93 (by decide) ?_
    refine sp_rV (rest := []) (As := [.int 2]) ⟨hx, hb, hml, hown, hts⟩ (mX0_rollersLying l D cI cT a0 a1 a2 a3 F P 2 n hn h3) (cwV 1 hts gX0_fact_X0_rollersLying rfl rfl rfl (by decide +kernel) ⟨Nat.le_of_ble_eq_true rfl, Nat.le_of_ble_eq_true rfl⟩) hK (sp_pick hP [0, 1] rfl) (ci := 0) rfl rfl rfl rfl hl.1 rfl (Nat.le_of_ble_eq_true rfl) dX0_fact_94 ⟨Nat.zero_le _, Nat.zero_le _⟩ ?_
    refine sp_top (show nI (cLie F P n 2) = cFact F P n 6 from rfl ) ?_
    subst hQ
    exact W.iret hx hb hr (fun t ht _ => ⟨rfl, ht⟩) (fun _ h => nomatch h) dX0_fact_97
  by_cases z7 : w = 7
  · subst z7
    refine lv_tableIn (tgt := 98) hx hb dX0_fact_1 (by decide) (by decide) rfl (by decide) ?_
    refine lv_aload_n hx hb dX0_fact_98 rfl (lv_at hl 0 rfl) ?_
    refine lv_iconst (v := 3) hx hb dX0_fact_99 (by decide) ?_
    refine sp_rV (rest := []) (As := [.int 3]) ⟨hx, hb, hml, hown, hts⟩ (mX0_rollersLying l D cI cT a0 a1 a2 a3 F P 3 n hn h3) (cwV 1 hts gX0_fact_X0_rollersLying rfl rfl rfl (by decide +kernel) ⟨Nat.le_of_ble_eq_true rfl, Nat.le_of_ble_eq_true rfl⟩) hK (sp_pick hP [0, 1] rfl) (ci := 0) rfl rfl rfl rfl hl.1 rfl (Nat.le_of_ble_eq_true rfl) dX0_fact_100 ⟨Nat.zero_le _, Nat.zero_le _⟩ ?_
    refine sp_top (show nI (cLie F P n 3) = cFact F P n 7 from rfl ) ?_
    subst hQ
    exact W.iret hx hb hr (fun t ht _ => ⟨rfl, ht⟩) (fun _ h => nomatch h) dX0_fact_103
  by_cases z8 : w = 8
  · subst z8
    refine lv_tableIn (tgt := 104) hx hb dX0_fact_1 (by decide) (by decide) rfl (by decide) ?_
    refine lv_aload_n hx hb dX0_fact_104 rfl (lv_at hl 0 rfl) ?_
    refine va_get (D := D) (ci := 0) (v := .int (F 16)) (C := RX0) (T := TX0) (N := 20) hx hb hts hiX0 hown hK.1 hP 0 rfl rfl 16 (by decide) (hts (.fieldLink RX0 71 "SledgeRace$Team" "endTick" "I") (by decide +kernel)) (fun _ h9 => h9) rfl dX0_fact_105 ?_
    refine sp_top (show F 16 = cFact F P n 8 from rfl ) ?_
    subst hQ
    exact W.iret hx hb hr (fun t ht _ => ⟨rfl, ht⟩) (fun _ h => nomatch h) dX0_fact_108
  by_cases z9 : w = 9
  · subst z9
    refine lv_tableIn (tgt := 109) hx hb dX0_fact_1 (by decide) (by decide) rfl (by decide) ?_
    refine lv_aload_n hx hb dX0_fact_109 rfl (lv_at hl 0 rfl) ?_
    refine va_get (D := D) (ci := 0) (v := .int (F 8)) (C := RX0) (T := TX0) (N := 20) hx hb hts hiX0 hown hK.1 hP 0 rfl rfl 8 (by decide) (hts (.fieldLink RX0 34 "SledgeRace$Team" "effort" "I") (by decide +kernel)) (fun _ h9 => h9) rfl dX0_fact_110 ?_
    refine sp_top (show F 8 = cFact F P n 9 from rfl ) ?_
    subst hQ
    exact W.iret hx hb hr (fun t ht _ => ⟨rfl, ht⟩) (fun _ h => nomatch h) dX0_fact_113
  by_cases z10 : w = 10
  · subst z10
    refine lv_tableIn (tgt := 114) hx hb dX0_fact_1 (by decide) (by decide) rfl (by decide) ?_
    refine lv_aload_n hx hb dX0_fact_114 rfl (lv_at hl 0 rfl) ?_
    refine va_get (D := D) (ci := 0) (v := .int (F 9)) (C := RX0) (T := TX0) (N := 20) hx hb hts hiX0 hown hK.1 hP 0 rfl rfl 9 (by decide) (hts (.fieldLink RX0 37 "SledgeRace$Team" "gap" "I") (by decide +kernel)) (fun _ h9 => h9) rfl dX0_fact_115 ?_
    refine sp_top (show F 9 = cFact F P n 10 from rfl ) ?_
    subst hQ
    exact W.iret hx hb hr (fun t ht _ => ⟨rfl, ht⟩) (fun _ h => nomatch h) dX0_fact_118
  refine lv_tableOut (tgt := 119) hx hb dX0_fact_1 (sp_out10 z0 z1 z2 z3 z4 z5 z6 z7 z8 z9 z10) (by decide) ?_
  refine lv_aload_n hx hb dX0_fact_119 rfl (lv_at hl 0 rfl) ?_
  refine va_get (D := D) (ci := 0) (v := .int (F 15)) (C := RX0) (T := TX0) (N := 20) hx hb hts hiX0 hown hK.1 hP 0 rfl rfl 15 (by decide) (hts (.fieldLink RX0 68 "SledgeRace$Team" "way" "I") (by decide +kernel)) (fun _ h9 => h9) rfl dX0_fact_120 ?_
  refine sp_top (show F 15 = cFact F P n w from by simp only [cFact, if_neg z0, if_neg z1, if_neg z2, if_neg z3, if_neg z4, if_neg z5, if_neg z6, if_neg z7, if_neg z8, if_neg z9, if_neg z10]) ?_
  subst hQ
  exact W.iret hx hb hr (fun t ht _ => ⟨rfl, ht⟩) (fun _ h => nomatch h) dX0_fact_123

abbrev rmX0_addTo : Room := { frames := 3, cells := 0, slots := 0, locals := 65 }
set_option maxHeartbeats 4000000 in
set_option maxRecDepth 100000 in
/-- a digest goes on over a team -/
theorem mX0_addTo (l : Launch) (D : va_G) (cI cT : ClassId) (a0 a1 a2 a3 : Nat) (F P : Nat → Int32) (d : Int64) (n : Nat) (hn : n ≤ 8) (h3 : F 3 = nI n) : MetRl l D cI cT yX0_addTo wsX0_addTo rmX0_addTo [.ref a0, .long d] [(a0, oT F a1 a2 a3), (a1, aI cI 8 P)] (cAdd F P n d) := by
  refine Met.ofW (cc := cX0_addTo) (maxL := 6) (ret := (some .long)) (by decide) rfl ?_
  intro p e s m args below meth c s₁ B hml hv
  obtain ⟨hargs, hP, hK⟩ := hv
  have hx := B.exec
  have hb := B.bytes
  have hr := B.returns
  have hts := atoms_spec (ws := wsX0_addTo) B.pre
  have hown : s.vm.findClass RX0 = some m.cls := findClass_of_methodNamed B.named
  have hlocks := B.notSynchronized
  have hiX0 : ∀ w ∈ u_ws RX0 TX0 20, w ∈ wsX0_addTo := by decide +kernel
  have he : entryFrame m args 6 = F0 m 0 ((lg_sl [.ref a0, .long d] ++ List.replicate (6 - (lg_sl [.ref a0, .long d]).length) Slot.unset).toArray) [] := by rw [hargs]; exact lg_entry_eq m _ _
  rw [he]
  change W p l e rmX0_addTo s m args below meth c s.heap [] 0 0 (MQ below (vp_Sl (fun r => r = cAdd F P n d)) args s 0 0 (fun _ => False)) _
  obtain ⟨Q, hQ⟩ : ∃ Q, Q = MQ below (vp_Sl (fun r => r = cAdd F P n d)) args s 0 0 (fun _ => False) := ⟨_, rfl⟩
  rw [← hQ]
  have hl := lv_entry [.ref a0, .long d] (n := 6) (Nat.le_of_ble_eq_true rfl)
  generalize (lg_sl [.ref a0, .long d] ++ List.replicate (6 - (lg_sl [.ref a0, .long d]).length) Slot.unset).toArray = ls at hl ⊢
  have hl : lv_has ls 6 [(0, .ref a0), (1, .long d)] := hl
  refine lv_lload_n hx hb dX0_addTo_0 rfl (lv_at hl 1 rfl) ?_
  refine lv_lstore_n (lv' := [(3, .long d), (0, .ref a0), (1, .long d)]) hx hb dX0_addTo_1 rfl hl (by decide) rfl (fun ls hl => ?_)
  refine lv_iconst (v := nI 0) hx hb dX0_addTo_2 (by decide) ?_
  refine lv_istore (lv' := [(5, .int (nI 0)), (3, .long d), (0, .ref a0), (1, .long d)]) hx hb dX0_addTo_3 hl (by decide) rfl (fun ls hl => ?_)
  have loop5 : ∀ (fu : Nat) (i : Nat) (z : Int64), (12 - i) < fu → (i ≤ 12) → (z = dgL (fun i => cFact F P n (nI i)) d i) → ∀ (ls : Array Slot), lv_has ls 6 [(5, .int (nI i)), (3, .long z), (0, .ref a0)] → W p l e rmX0_addTo s m args below meth c s.heap [] 0 0 Q (F0 m 5 ls []) := by
    intro fu
    induction fu with
    | zero => intro i z hfu; exact absurd hfu (Nat.not_lt_zero _)
    | succ fu ih5 =>
      intro i z hfu5 hi ez
      intro ls hl
      refine lv_iload hx hb dX0_addTo_5 (lv_at hl 0 rfl) ?_
      refine lv_bipush (v := nI 12) hx hb dX0_addTo_7 (by decide) ?_
      refine sp_ge (by omega) (by omega) (tgt := 32) hx hb dX0_addTo_9 (by decide) (fun c9 => ?_) (fun c9 => ?_)
      · skip
        refine lv_iconst (v := nI 0) hx hb dX0_addTo_32 (by decide) ?_
        refine lv_istore (lv' := [(5, .int (nI 0)), (3, .long z), (0, .ref a0)]) hx hb dX0_addTo_33 hl (by decide) rfl (fun ls hl => ?_)
        have loop35 : ∀ (fu : Nat) (j : Nat) (y : Int64), (n - j) < fu → (j ≤ n) → (y = dgL P (dgL (fun i => cFact F P n (nI i)) d 12) j) → ∀ (ls : Array Slot), lv_has ls 6 [(5, .int (nI j)), (3, .long y), (0, .ref a0)] → W p l e rmX0_addTo s m args below meth c s.heap [] 0 0 Q (F0 m 35 ls []) := by
          intro fu
          induction fu with
          | zero => intro j y hfu; exact absurd hfu (Nat.not_lt_zero _)
          | succ fu ih35 =>
            intro j y hfu35 hj ey
            intro ls hl
            refine lv_iload hx hb dX0_addTo_35 (lv_at hl 0 rfl) ?_
            refine lv_aload_n hx hb dX0_addTo_37 rfl (lv_at hl 2 rfl) ?_
            refine va_get (D := D) (ci := 0) (v := .int (nI n)) (C := RX0) (T := TX0) (N := 20) hx hb hts hiX0 hown hK.1 hP 0 rfl rfl 3 (by decide) (hts (.fieldLink RX0 19 "SledgeRace$Team" "rollers" "I") (by decide +kernel)) (fun _ h9 => h9) (congrArg (fun z => some (Value.int z)) h3) dX0_addTo_38 ?_
            refine sp_ge (by omega) (by omega) (tgt := 75) hx hb dX0_addTo_41 (by decide) (fun c41 => ?_) (fun c41 => ?_)
            · skip
              refine lv_lload_n hx hb dX0_addTo_75 rfl (lv_at hl 1 rfl) ?_
              refine sp_topl (show y = cAdd F P n d from by rw [ey, show j = n from by omega]; rfl) ?_
              subst hQ
              exact W.lret hx hb hr (fun t ht _ => ⟨_, rfl, rfl, ht⟩) (fun _ h => nomatch h) dX0_addTo_76
            · skip
              refine lv_iload hx hb dX0_addTo_44 (lv_at hl 0 rfl) ?_
              refine lv_aload_n hx hb dX0_addTo_46 rfl (lv_at hl 2 rfl) ?_
              refine va_get (D := D) (ci := 0) (v := .ref a1) (C := RX0) (T := TX0) (N := 20) hx hb hts hiX0 hown hK.1 hP 0 rfl rfl 17 (by decide) (hts (.fieldLink RX0 40 "SledgeRace$Team" "places" "[I") (by decide +kernel)) (fun _ h9 => h9) rfl dX0_addTo_47 ?_
              refine va_alen hx hb hK.1 hP 1 0 rfl rfl (v := nI 8) rfl dX0_addTo_50 ?_
              refine sp_ge (by omega) (by omega) (tgt := 75) hx hb dX0_addTo_51 (by decide) (fun c51 => absurd c51 (by omega)) (fun _ => ?_)
              refine lv_lload_n hx hb dX0_addTo_54 rfl (lv_at hl 1 rfl) ?_
              refine lv_ldc2 hx hb hown (hts (.constantLong RX0 132 (31)) (by decide +kernel)) dX0_addTo_55 ?_
              refine lv_lmul hx hb dX0_addTo_58 ?_
              refine lv_aload_n hx hb dX0_addTo_59 rfl (lv_at hl 2 rfl) ?_
              refine va_get (D := D) (ci := 0) (v := .ref a1) (C := RX0) (T := TX0) (N := 20) hx hb hts hiX0 hown hK.1 hP 0 rfl rfl 17 (by decide) (hts (.fieldLink RX0 40 "SledgeRace$Team" "places" "[I") (by decide +kernel)) (fun _ h9 => h9) rfl dX0_addTo_60 ?_
              refine lv_iload hx hb dX0_addTo_63 (lv_at hl 0 rfl) ?_
              refine sp_iald hx hb hK.1 hP 1 0 rfl rfl (by omega) (by omega) dX0_addTo_65 ?_
              refine lv_i2l (v := Int32.toInt64 (P j)) hx hb dX0_addTo_66 rfl ?_
              refine lv_ladd hx hb dX0_addTo_67 ?_
              refine lv_lstore_n (lv' := [(3, .long ((y * 31) + (Int32.toInt64 (P j)))), (5, .int (nI j)), (0, .ref a0)]) hx hb dX0_addTo_68 rfl hl (by decide) rfl (fun ls hl => ?_)
              refine lv_iinc (v := nI (j + 1)) (lv' := [(5, .int (nI (j + 1))), (3, .long ((y * 31) + (Int32.toInt64 (P j)))), (0, .ref a0)]) hx hb dX0_addTo_69 hl (k := 1) rfl ((nI_1 j)) (by decide) rfl (fun ls hl => ?_)
              refine lv_goto (tgt := 35) hx hb dX0_addTo_72 (by decide) ?_
              exact ih35 (j + 1) ((y * 31) + (Int32.toInt64 (P j))) (by omega) (by omega) (by rw [dgL, ← ey]) ls (lv_sub hl [0, 1, 2] rfl)
        exact loop35 _ 0 z (Nat.lt_succ_self _) (Nat.zero_le _) (by rw [dgL, ez, show i = 12 from by omega]) ls (lv_sub hl [0, 1, 2] rfl)
      · skip
        refine lv_lload_n hx hb dX0_addTo_12 rfl (lv_at hl 1 rfl) ?_
        refine lv_ldc2 hx hb hown (hts (.constantLong RX0 132 (31)) (by decide +kernel)) dX0_addTo_13 ?_
        refine lv_lmul hx hb dX0_addTo_16 ?_
        refine lv_aload_n hx hb dX0_addTo_17 rfl (lv_at hl 2 rfl) ?_
        refine lv_iload hx hb dX0_addTo_18 (lv_at hl 0 rfl) ?_
        refine sp_rV (rest := [.long (z * 31)]) (As := [.int (nI i)]) ⟨hx, hb, hml, hown, hts⟩ (mX0_fact l D cI cT a0 a1 a2 a3 F P (nI i) n hn h3) (cwV 1 hts gX0_addTo_X0_fact rfl rfl rfl (by decide +kernel) ⟨Nat.le_of_ble_eq_true rfl, Nat.le_of_ble_eq_true rfl⟩) hK (sp_pick hP [0, 1] rfl) (ci := 0) rfl rfl rfl rfl hl.1 rfl (Nat.le_of_ble_eq_true rfl) dX0_addTo_20 ⟨Nat.zero_le _, Nat.zero_le _⟩ ?_
        refine lv_i2l (v := Int32.toInt64 (cFact F P n (nI i))) hx hb dX0_addTo_23 rfl ?_
        refine lv_ladd hx hb dX0_addTo_24 ?_
        refine lv_lstore_n (lv' := [(3, .long ((z * 31) + (Int32.toInt64 (cFact F P n (nI i))))), (5, .int (nI i)), (0, .ref a0)]) hx hb dX0_addTo_25 rfl hl (by decide) rfl (fun ls hl => ?_)
        refine lv_iinc (v := nI (i + 1)) (lv' := [(5, .int (nI (i + 1))), (3, .long ((z * 31) + (Int32.toInt64 (cFact F P n (nI i))))), (0, .ref a0)]) hx hb dX0_addTo_26 hl (k := 1) rfl ((nI_1 i)) (by decide) rfl (fun ls hl => ?_)
        refine lv_goto (tgt := 5) hx hb dX0_addTo_29 (by decide) ?_
        exact ih5 (i + 1) ((z * 31) + (Int32.toInt64 (cFact F P n (nI i)))) (by omega) (by omega) (by rw [dgL, ← ez]) ls (lv_sub hl [0, 1, 2] rfl)
  exact loop5 _ 0 d (Nat.lt_succ_self _) (Nat.zero_le _) (rfl) ls (lv_sub hl [0, 1, 2] rfl)
end
