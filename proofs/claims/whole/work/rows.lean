section
-- ===== PART A: goes FIRST, ahead of the names: the tables' words, and 'selects' of the private methods out of them =====
/-- a private method of a class that the tables say can be made, by its rows of tables_1 -/
def lw_okq (q : MethodName × Nat) : Prop := (q.1.cls ≠ "java/lang/invoke/MethodHandle" ∧ q.1.cls ≠ "java/lang/invoke/VarHandle") ∧ Cond.instantiable q.1.cls q.2 ∈ tables_1 ∧ Cond.privateMethod q.1 ∈ tables_1 ∧ Cond.instanceMethod q.1 ∈ tables_1
theorem lw_p0 : lw_okq (⟨"Encores$Past", "momentAt", "(I)LEncores$Moment;"⟩, 3) := ⟨⟨by decide +kernel, by decide +kernel⟩, List.mem_of_getElem? (i := 135) (by decide +kernel), List.mem_of_getElem? (i := 449) (by decide +kernel), List.mem_of_getElem? (i := 450) (by decide +kernel)⟩
theorem lw_p1 : lw_okq (⟨"Encores$Law", "askOf", "(III)V"⟩, 3) := ⟨⟨by decide +kernel, by decide +kernel⟩, List.mem_of_getElem? (i := 259) (by decide +kernel), List.mem_of_getElem? (i := 481) (by decide +kernel), List.mem_of_getElem? (i := 482) (by decide +kernel)⟩
theorem lw_p2 : lw_okq (⟨"Encores$Law", "ask", "(II)V"⟩, 3) := ⟨⟨by decide +kernel, by decide +kernel⟩, List.mem_of_getElem? (i := 259) (by decide +kernel), List.mem_of_getElem? (i := 486) (by decide +kernel), List.mem_of_getElem? (i := 487) (by decide +kernel)⟩
theorem lw_p3 : lw_okq (⟨"Encores$Law", "tell", "(I)I"⟩, 3) := ⟨⟨by decide +kernel, by decide +kernel⟩, List.mem_of_getElem? (i := 259) (by decide +kernel), List.mem_of_getElem? (i := 491) (by decide +kernel), List.mem_of_getElem? (i := 492) (by decide +kernel)⟩
theorem lw_p4 : lw_okq (⟨"Encores$Law", "run", "(II)I"⟩, 3) := ⟨⟨by decide +kernel, by decide +kernel⟩, List.mem_of_getElem? (i := 259) (by decide +kernel), List.mem_of_getElem? (i := 495) (by decide +kernel), List.mem_of_getElem? (i := 496) (by decide +kernel)⟩
theorem lw_p5 : lw_okq (⟨"Encores$Law", "answer", "(I)I"⟩, 3) := ⟨⟨by decide +kernel, by decide +kernel⟩, List.mem_of_getElem? (i := 259) (by decide +kernel), List.mem_of_getElem? (i := 499) (by decide +kernel), List.mem_of_getElem? (i := 500) (by decide +kernel)⟩
theorem lw_p6 : lw_okq (⟨"Encores$Stage", "drawEach", "()V"⟩, 7) := ⟨⟨by decide +kernel, by decide +kernel⟩, List.mem_of_getElem? (i := 275) (by decide +kernel), List.mem_of_getElem? (i := 514) (by decide +kernel), List.mem_of_getElem? (i := 515) (by decide +kernel)⟩
theorem lw_p7 : lw_okq (⟨"Encores$Stage", "draw", "(I)I"⟩, 7) := ⟨⟨by decide +kernel, by decide +kernel⟩, List.mem_of_getElem? (i := 275) (by decide +kernel), List.mem_of_getElem? (i := 518) (by decide +kernel), List.mem_of_getElem? (i := 519) (by decide +kernel)⟩
theorem lw_p8 : lw_okq (⟨"Encores$Stage", "coughs", "()Z"⟩, 7) := ⟨⟨by decide +kernel, by decide +kernel⟩, List.mem_of_getElem? (i := 275) (by decide +kernel), List.mem_of_getElem? (i := 545) (by decide +kernel), List.mem_of_getElem? (i := 546) (by decide +kernel)⟩
theorem lw_p9 : lw_okq (⟨"Encores$Stage", "noteDone", "(IZI)V"⟩, 7) := ⟨⟨by decide +kernel, by decide +kernel⟩, List.mem_of_getElem? (i := 275) (by decide +kernel), List.mem_of_getElem? (i := 557) (by decide +kernel), List.mem_of_getElem? (i := 558) (by decide +kernel)⟩
theorem lw_p10 : lw_okq (⟨"Encores$House", "lastOf", "(II)I"⟩, 11) := ⟨⟨by decide +kernel, by decide +kernel⟩, List.mem_of_getElem? (i := 30) (by decide +kernel), List.mem_of_getElem? (i := 577) (by decide +kernel), List.mem_of_getElem? (i := 578) (by decide +kernel)⟩
theorem lw_p11 : lw_okq (⟨"Encores", "turn", "(IIZI)Z"⟩, 13) := ⟨⟨by decide +kernel, by decide +kernel⟩, List.mem_of_getElem? (i := 22) (by decide +kernel), List.mem_of_getElem? (i := 595) (by decide +kernel), List.mem_of_getElem? (i := 596) (by decide +kernel)⟩
theorem lw_p12 : lw_okq (⟨"Encores$Tape", "byteAt", "(I)I"⟩, 7) := ⟨⟨by decide +kernel, by decide +kernel⟩, List.mem_of_getElem? (i := 176) (by decide +kernel), List.mem_of_getElem? (i := 643) (by decide +kernel), List.mem_of_getElem? (i := 644) (by decide +kernel)⟩
theorem lw_p13 : lw_okq (⟨"Encores$Tape", "take", "(I)I"⟩, 7) := ⟨⟨by decide +kernel, by decide +kernel⟩, List.mem_of_getElem? (i := 176) (by decide +kernel), List.mem_of_getElem? (i := 650) (by decide +kernel), List.mem_of_getElem? (i := 651) (by decide +kernel)⟩
theorem lw_p14 : lw_okq (⟨"Encores$Tape", "takeNumber", "(I)I"⟩, 7) := ⟨⟨by decide +kernel, by decide +kernel⟩, List.mem_of_getElem? (i := 176) (by decide +kernel), List.mem_of_getElem? (i := 657) (by decide +kernel), List.mem_of_getElem? (i := 658) (by decide +kernel)⟩
theorem lw_p15 : lw_okq (⟨"Encores$Tape", "wordAt", "(II)I"⟩, 7) := ⟨⟨by decide +kernel, by decide +kernel⟩, List.mem_of_getElem? (i := 176) (by decide +kernel), List.mem_of_getElem? (i := 668) (by decide +kernel), List.mem_of_getElem? (i := 669) (by decide +kernel)⟩
def lw_privs_1 : List (MethodName × Nat) := [(⟨"Encores$Past", "momentAt", "(I)LEncores$Moment;"⟩, 3), (⟨"Encores$Law", "askOf", "(III)V"⟩, 3), (⟨"Encores$Law", "ask", "(II)V"⟩, 3), (⟨"Encores$Law", "tell", "(I)I"⟩, 3), (⟨"Encores$Law", "run", "(II)I"⟩, 3), (⟨"Encores$Law", "answer", "(I)I"⟩, 3), (⟨"Encores$Stage", "drawEach", "()V"⟩, 7), (⟨"Encores$Stage", "draw", "(I)I"⟩, 7), (⟨"Encores$Stage", "coughs", "()Z"⟩, 7), (⟨"Encores$Stage", "noteDone", "(IZI)V"⟩, 7), (⟨"Encores$House", "lastOf", "(II)I"⟩, 11), (⟨"Encores", "turn", "(IIZI)Z"⟩, 13), (⟨"Encores$Tape", "byteAt", "(I)I"⟩, 7), (⟨"Encores$Tape", "take", "(I)I"⟩, 7), (⟨"Encores$Tape", "takeNumber", "(I)I"⟩, 7), (⟨"Encores$Tape", "wordAt", "(II)I"⟩, 7)]
theorem lw_r1 : ∀ q ∈ lw_privs_1, lw_okq q := List.forall_mem_cons.mpr ⟨lw_p0, List.forall_mem_cons.mpr ⟨lw_p1, List.forall_mem_cons.mpr ⟨lw_p2, List.forall_mem_cons.mpr ⟨lw_p3, List.forall_mem_cons.mpr ⟨lw_p4, List.forall_mem_cons.mpr ⟨lw_p5, List.forall_mem_cons.mpr ⟨lw_p6, List.forall_mem_cons.mpr ⟨lw_p7, List.forall_mem_cons.mpr ⟨lw_p8, List.forall_mem_cons.mpr ⟨lw_p9, List.forall_mem_cons.mpr ⟨lw_p10, List.forall_mem_cons.mpr ⟨lw_p11, List.forall_mem_cons.mpr ⟨lw_p12, List.forall_mem_cons.mpr ⟨lw_p13, List.forall_mem_cons.mpr ⟨lw_p14, List.forall_mem_cons.mpr ⟨lw_p15, fun _ h => absurd h List.not_mem_nil⟩⟩⟩⟩⟩⟩⟩⟩⟩⟩⟩⟩⟩⟩⟩⟩
theorem lw_p16 : lw_okq (⟨"Encores$Tape", "isSame", "(III)Z"⟩, 7) := ⟨⟨by decide +kernel, by decide +kernel⟩, List.mem_of_getElem? (i := 176) (by decide +kernel), List.mem_of_getElem? (i := 721) (by decide +kernel), List.mem_of_getElem? (i := 722) (by decide +kernel)⟩
theorem lw_p17 : lw_okq (⟨"Encores$Reader", "readLine", "(I)V"⟩, 12) := ⟨⟨by decide +kernel, by decide +kernel⟩, List.mem_of_getElem? (i := 210) (by decide +kernel), List.mem_of_getElem? (i := 731) (by decide +kernel), List.mem_of_getElem? (i := 732) (by decide +kernel)⟩
theorem lw_p18 : lw_okq (⟨"Encores$Reader", "blame", "(I)V"⟩, 12) := ⟨⟨by decide +kernel, by decide +kernel⟩, List.mem_of_getElem? (i := 210) (by decide +kernel), List.mem_of_getElem? (i := 738) (by decide +kernel), List.mem_of_getElem? (i := 739) (by decide +kernel)⟩
theorem lw_p19 : lw_okq (⟨"Encores$Reader", "readLaw", "()V"⟩, 12) := ⟨⟨by decide +kernel, by decide +kernel⟩, List.mem_of_getElem? (i := 210) (by decide +kernel), List.mem_of_getElem? (i := 744) (by decide +kernel), List.mem_of_getElem? (i := 745) (by decide +kernel)⟩
theorem lw_p20 : lw_okq (⟨"Encores$Reader", "readCondition", "()I"⟩, 12) := ⟨⟨by decide +kernel, by decide +kernel⟩, List.mem_of_getElem? (i := 210) (by decide +kernel), List.mem_of_getElem? (i := 749) (by decide +kernel), List.mem_of_getElem? (i := 750) (by decide +kernel)⟩
theorem lw_p21 : lw_okq (⟨"Encores$Reader", "failed", "(I)I"⟩, 12) := ⟨⟨by decide +kernel, by decide +kernel⟩, List.mem_of_getElem? (i := 210) (by decide +kernel), List.mem_of_getElem? (i := 753) (by decide +kernel), List.mem_of_getElem? (i := 754) (by decide +kernel)⟩
theorem lw_p22 : lw_okq (⟨"Encores$Reader", "readUnit", "()I"⟩, 12) := ⟨⟨by decide +kernel, by decide +kernel⟩, List.mem_of_getElem? (i := 210) (by decide +kernel), List.mem_of_getElem? (i := 757) (by decide +kernel), List.mem_of_getElem? (i := 758) (by decide +kernel)⟩
theorem lw_p23 : lw_okq (⟨"Encores$Reader", "readDivisor", "()I"⟩, 12) := ⟨⟨by decide +kernel, by decide +kernel⟩, List.mem_of_getElem? (i := 210) (by decide +kernel), List.mem_of_getElem? (i := 761) (by decide +kernel), List.mem_of_getElem? (i := 762) (by decide +kernel)⟩
theorem lw_p24 : lw_okq (⟨"Encores$Reader", "readBehindUnit", "()I"⟩, 12) := ⟨⟨by decide +kernel, by decide +kernel⟩, List.mem_of_getElem? (i := 210) (by decide +kernel), List.mem_of_getElem? (i := 765) (by decide +kernel), List.mem_of_getElem? (i := 766) (by decide +kernel)⟩
theorem lw_p25 : lw_okq (⟨"Encores$Reader", "join", "(I)V"⟩, 12) := ⟨⟨by decide +kernel, by decide +kernel⟩, List.mem_of_getElem? (i := 210) (by decide +kernel), List.mem_of_getElem? (i := 772) (by decide +kernel), List.mem_of_getElem? (i := 773) (by decide +kernel)⟩
theorem lw_p26 : lw_okq (⟨"Encores$Reader", "dropDownTo", "(I)V"⟩, 12) := ⟨⟨by decide +kernel, by decide +kernel⟩, List.mem_of_getElem? (i := 210) (by decide +kernel), List.mem_of_getElem? (i := 779) (by decide +kernel), List.mem_of_getElem? (i := 780) (by decide +kernel)⟩
theorem lw_p27 : lw_okq (⟨"Encores$Reader", "finish", "()I"⟩, 12) := ⟨⟨by decide +kernel, by decide +kernel⟩, List.mem_of_getElem? (i := 210) (by decide +kernel), List.mem_of_getElem? (i := 784) (by decide +kernel), List.mem_of_getElem? (i := 785) (by decide +kernel)⟩
theorem lw_p28 : lw_okq (⟨"Encores$Reader", "readBehindCondition", "()I"⟩, 12) := ⟨⟨by decide +kernel, by decide +kernel⟩, List.mem_of_getElem? (i := 210) (by decide +kernel), List.mem_of_getElem? (i := 788) (by decide +kernel), List.mem_of_getElem? (i := 789) (by decide +kernel)⟩
theorem lw_p29 : lw_okq (⟨"Encores$Reader", "readStatute", "(I)V"⟩, 12) := ⟨⟨by decide +kernel, by decide +kernel⟩, List.mem_of_getElem? (i := 210) (by decide +kernel), List.mem_of_getElem? (i := 793) (by decide +kernel), List.mem_of_getElem? (i := 794) (by decide +kernel)⟩
theorem lw_p30 : lw_okq (⟨"Encores$Reader", "readNumber", "(III)V"⟩, 12) := ⟨⟨by decide +kernel, by decide +kernel⟩, List.mem_of_getElem? (i := 210) (by decide +kernel), List.mem_of_getElem? (i := 797) (by decide +kernel), List.mem_of_getElem? (i := 798) (by decide +kernel)⟩
theorem lw_p31 : lw_okq (⟨"Encores$Reader", "readWord", "(I)V"⟩, 12) := ⟨⟨by decide +kernel, by decide +kernel⟩, List.mem_of_getElem? (i := 210) (by decide +kernel), List.mem_of_getElem? (i := 801) (by decide +kernel), List.mem_of_getElem? (i := 802) (by decide +kernel)⟩
def lw_privs_2 : List (MethodName × Nat) := [(⟨"Encores$Tape", "isSame", "(III)Z"⟩, 7), (⟨"Encores$Reader", "readLine", "(I)V"⟩, 12), (⟨"Encores$Reader", "blame", "(I)V"⟩, 12), (⟨"Encores$Reader", "readLaw", "()V"⟩, 12), (⟨"Encores$Reader", "readCondition", "()I"⟩, 12), (⟨"Encores$Reader", "failed", "(I)I"⟩, 12), (⟨"Encores$Reader", "readUnit", "()I"⟩, 12), (⟨"Encores$Reader", "readDivisor", "()I"⟩, 12), (⟨"Encores$Reader", "readBehindUnit", "()I"⟩, 12), (⟨"Encores$Reader", "join", "(I)V"⟩, 12), (⟨"Encores$Reader", "dropDownTo", "(I)V"⟩, 12), (⟨"Encores$Reader", "finish", "()I"⟩, 12), (⟨"Encores$Reader", "readBehindCondition", "()I"⟩, 12), (⟨"Encores$Reader", "readStatute", "(I)V"⟩, 12), (⟨"Encores$Reader", "readNumber", "(III)V"⟩, 12), (⟨"Encores$Reader", "readWord", "(I)V"⟩, 12)]
theorem lw_r2 : ∀ q ∈ lw_privs_2, lw_okq q := List.forall_mem_cons.mpr ⟨lw_p16, List.forall_mem_cons.mpr ⟨lw_p17, List.forall_mem_cons.mpr ⟨lw_p18, List.forall_mem_cons.mpr ⟨lw_p19, List.forall_mem_cons.mpr ⟨lw_p20, List.forall_mem_cons.mpr ⟨lw_p21, List.forall_mem_cons.mpr ⟨lw_p22, List.forall_mem_cons.mpr ⟨lw_p23, List.forall_mem_cons.mpr ⟨lw_p24, List.forall_mem_cons.mpr ⟨lw_p25, List.forall_mem_cons.mpr ⟨lw_p26, List.forall_mem_cons.mpr ⟨lw_p27, List.forall_mem_cons.mpr ⟨lw_p28, List.forall_mem_cons.mpr ⟨lw_p29, List.forall_mem_cons.mpr ⟨lw_p30, List.forall_mem_cons.mpr ⟨lw_p31, fun _ h => absurd h List.not_mem_nil⟩⟩⟩⟩⟩⟩⟩⟩⟩⟩⟩⟩⟩⟩⟩⟩
theorem lw_p32 : lw_okq (⟨"Encores$House", "countHands", "()V"⟩, 11) := ⟨⟨by decide +kernel, by decide +kernel⟩, List.mem_of_getElem? (i := 30) (by decide +kernel), List.mem_of_getElem? (i := 810) (by decide +kernel), List.mem_of_getElem? (i := 811) (by decide +kernel)⟩
theorem lw_p33 : lw_okq (⟨"Encores$House", "seat", "()V"⟩, 11) := ⟨⟨by decide +kernel, by decide +kernel⟩, List.mem_of_getElem? (i := 30) (by decide +kernel), List.mem_of_getElem? (i := 814) (by decide +kernel), List.mem_of_getElem? (i := 815) (by decide +kernel)⟩
theorem lw_p34 : lw_okq (⟨"Encores", "settle", "(I)I"⟩, 13) := ⟨⟨by decide +kernel, by decide +kernel⟩, List.mem_of_getElem? (i := 22) (by decide +kernel), List.mem_of_getElem? (i := 863) (by decide +kernel), List.mem_of_getElem? (i := 864) (by decide +kernel)⟩
theorem lw_p35 : lw_okq (⟨"Encores", "fewestAway", "(II)I"⟩, 13) := ⟨⟨by decide +kernel, by decide +kernel⟩, List.mem_of_getElem? (i := 22) (by decide +kernel), List.mem_of_getElem? (i := 874) (by decide +kernel), List.mem_of_getElem? (i := 875) (by decide +kernel)⟩
theorem lw_p36 : lw_okq (⟨"Encores$Fewest", "prepareClaps", "(II)I"⟩, 7) := ⟨⟨by decide +kernel, by decide +kernel⟩, List.mem_of_getElem? (i := 306) (by decide +kernel), List.mem_of_getElem? (i := 888) (by decide +kernel), List.mem_of_getElem? (i := 889) (by decide +kernel)⟩
theorem lw_p37 : lw_okq (⟨"Encores$Fewest", "isDone", "(II)Z"⟩, 7) := ⟨⟨by decide +kernel, by decide +kernel⟩, List.mem_of_getElem? (i := 306) (by decide +kernel), List.mem_of_getElem? (i := 903) (by decide +kernel), List.mem_of_getElem? (i := 904) (by decide +kernel)⟩
theorem lw_p38 : lw_okq (⟨"Encores$Fewest", "clappingAt", "(II)I"⟩, 7) := ⟨⟨by decide +kernel, by decide +kernel⟩, List.mem_of_getElem? (i := 306) (by decide +kernel), List.mem_of_getElem? (i := 907) (by decide +kernel), List.mem_of_getElem? (i := 908) (by decide +kernel)⟩
theorem lw_p39 : lw_okq (⟨"Encores$Programme", "isWorthMore", "(II)Z"⟩, 1) := ⟨⟨by decide +kernel, by decide +kernel⟩, List.mem_of_getElem? (i := 346) (by decide +kernel), List.mem_of_getElem? (i := 974) (by decide +kernel), List.mem_of_getElem? (i := 975) (by decide +kernel)⟩
theorem lw_p40 : lw_okq (⟨"Encores", "clearWith", "()V"⟩, 13) := ⟨⟨by decide +kernel, by decide +kernel⟩, List.mem_of_getElem? (i := 22) (by decide +kernel), List.mem_of_getElem? (i := 1009) (by decide +kernel), List.mem_of_getElem? (i := 1010) (by decide +kernel)⟩
theorem lw_p41 : lw_okq (⟨"Encores", "couldBePaid", "(I)Z"⟩, 13) := ⟨⟨by decide +kernel, by decide +kernel⟩, List.mem_of_getElem? (i := 22) (by decide +kernel), List.mem_of_getElem? (i := 1013) (by decide +kernel), List.mem_of_getElem? (i := 1014) (by decide +kernel)⟩
theorem lw_p42 : lw_okq (⟨"Encores", "countWith", "(I)V"⟩, 13) := ⟨⟨by decide +kernel, by decide +kernel⟩, List.mem_of_getElem? (i := 22) (by decide +kernel), List.mem_of_getElem? (i := 1017) (by decide +kernel), List.mem_of_getElem? (i := 1018) (by decide +kernel)⟩
theorem lw_p43 : lw_okq (⟨"Encores", "whomToAsk", "(I)I"⟩, 13) := ⟨⟨by decide +kernel, by decide +kernel⟩, List.mem_of_getElem? (i := 22) (by decide +kernel), List.mem_of_getElem? (i := 1021) (by decide +kernel), List.mem_of_getElem? (i := 1022) (by decide +kernel)⟩
theorem lw_p44 : lw_okq (⟨"Encores", "weightOfAll", "()I"⟩, 13) := ⟨⟨by decide +kernel, by decide +kernel⟩, List.mem_of_getElem? (i := 22) (by decide +kernel), List.mem_of_getElem? (i := 1035) (by decide +kernel), List.mem_of_getElem? (i := 1036) (by decide +kernel)⟩
theorem lw_p45 : lw_okq (⟨"Encores", "weight", "(I)I"⟩, 13) := ⟨⟨by decide +kernel, by decide +kernel⟩, List.mem_of_getElem? (i := 22) (by decide +kernel), List.mem_of_getElem? (i := 1039) (by decide +kernel), List.mem_of_getElem? (i := 1040) (by decide +kernel)⟩
theorem lw_p46 : lw_okq (⟨"Encores", "meaningBehind", "(II)I"⟩, 13) := ⟨⟨by decide +kernel, by decide +kernel⟩, List.mem_of_getElem? (i := 22) (by decide +kernel), List.mem_of_getElem? (i := 1082) (by decide +kernel), List.mem_of_getElem? (i := 1083) (by decide +kernel)⟩
theorem lw_p47 : lw_okq (⟨"Encores", "timesRound", "(I)I"⟩, 13) := ⟨⟨by decide +kernel, by decide +kernel⟩, List.mem_of_getElem? (i := 22) (by decide +kernel), List.mem_of_getElem? (i := 1086) (by decide +kernel), List.mem_of_getElem? (i := 1087) (by decide +kernel)⟩
def lw_privs_3 : List (MethodName × Nat) := [(⟨"Encores$House", "countHands", "()V"⟩, 11), (⟨"Encores$House", "seat", "()V"⟩, 11), (⟨"Encores", "settle", "(I)I"⟩, 13), (⟨"Encores", "fewestAway", "(II)I"⟩, 13), (⟨"Encores$Fewest", "prepareClaps", "(II)I"⟩, 7), (⟨"Encores$Fewest", "isDone", "(II)Z"⟩, 7), (⟨"Encores$Fewest", "clappingAt", "(II)I"⟩, 7), (⟨"Encores$Programme", "isWorthMore", "(II)Z"⟩, 1), (⟨"Encores", "clearWith", "()V"⟩, 13), (⟨"Encores", "couldBePaid", "(I)Z"⟩, 13), (⟨"Encores", "countWith", "(I)V"⟩, 13), (⟨"Encores", "whomToAsk", "(I)I"⟩, 13), (⟨"Encores", "weightOfAll", "()I"⟩, 13), (⟨"Encores", "weight", "(I)I"⟩, 13), (⟨"Encores", "meaningBehind", "(II)I"⟩, 13), (⟨"Encores", "timesRound", "(I)I"⟩, 13)]
theorem lw_r3 : ∀ q ∈ lw_privs_3, lw_okq q := List.forall_mem_cons.mpr ⟨lw_p32, List.forall_mem_cons.mpr ⟨lw_p33, List.forall_mem_cons.mpr ⟨lw_p34, List.forall_mem_cons.mpr ⟨lw_p35, List.forall_mem_cons.mpr ⟨lw_p36, List.forall_mem_cons.mpr ⟨lw_p37, List.forall_mem_cons.mpr ⟨lw_p38, List.forall_mem_cons.mpr ⟨lw_p39, List.forall_mem_cons.mpr ⟨lw_p40, List.forall_mem_cons.mpr ⟨lw_p41, List.forall_mem_cons.mpr ⟨lw_p42, List.forall_mem_cons.mpr ⟨lw_p43, List.forall_mem_cons.mpr ⟨lw_p44, List.forall_mem_cons.mpr ⟨lw_p45, List.forall_mem_cons.mpr ⟨lw_p46, List.forall_mem_cons.mpr ⟨lw_p47, fun _ h => absurd h List.not_mem_nil⟩⟩⟩⟩⟩⟩⟩⟩⟩⟩⟩⟩⟩⟩⟩⟩
theorem lw_p48 : lw_okq (⟨"EncoresModel", "forgets", "()V"⟩, 35) := ⟨⟨by decide +kernel, by decide +kernel⟩, List.mem_of_getElem? (i := 1107) (by decide +kernel), List.mem_of_getElem? (i := 1223) (by decide +kernel), List.mem_of_getElem? (i := 1224) (by decide +kernel)⟩
theorem lw_p49 : lw_okq (⟨"EncoresModel", "canSet", "(III)Z"⟩, 35) := ⟨⟨by decide +kernel, by decide +kernel⟩, List.mem_of_getElem? (i := 1107) (by decide +kernel), List.mem_of_getElem? (i := 1242) (by decide +kernel), List.mem_of_getElem? (i := 1243) (by decide +kernel)⟩
theorem lw_p50 : lw_okq (⟨"EncoresModel", "isHearer", "(I)Z"⟩, 35) := ⟨⟨by decide +kernel, by decide +kernel⟩, List.mem_of_getElem? (i := 1107) (by decide +kernel), List.mem_of_getElem? (i := 1246) (by decide +kernel), List.mem_of_getElem? (i := 1247) (by decide +kernel)⟩
theorem lw_p51 : lw_okq (⟨"EncoresModel", "isDeed", "(I)Z"⟩, 35) := ⟨⟨by decide +kernel, by decide +kernel⟩, List.mem_of_getElem? (i := 1107) (by decide +kernel), List.mem_of_getElem? (i := 1250) (by decide +kernel), List.mem_of_getElem? (i := 1251) (by decide +kernel)⟩
theorem lw_p52 : lw_okq (⟨"EncoresModel", "next0", "()V"⟩, 35) := ⟨⟨by decide +kernel, by decide +kernel⟩, List.mem_of_getElem? (i := 1107) (by decide +kernel), List.mem_of_getElem? (i := 1266) (by decide +kernel), List.mem_of_getElem? (i := 1267) (by decide +kernel)⟩
theorem lw_p53 : lw_okq (⟨"EncoresModel", "see", "(I)I"⟩, 35) := ⟨⟨by decide +kernel, by decide +kernel⟩, List.mem_of_getElem? (i := 1107) (by decide +kernel), List.mem_of_getElem? (i := 1270) (by decide +kernel), List.mem_of_getElem? (i := 1271) (by decide +kernel)⟩
theorem lw_p54 : lw_okq (⟨"EncoresModel", "word", "()I"⟩, 35) := ⟨⟨by decide +kernel, by decide +kernel⟩, List.mem_of_getElem? (i := 1107) (by decide +kernel), List.mem_of_getElem? (i := 1277) (by decide +kernel), List.mem_of_getElem? (i := 1278) (by decide +kernel)⟩
theorem lw_p55 : lw_okq (⟨"EncoresModel", "lawWord", "()I"⟩, 35) := ⟨⟨by decide +kernel, by decide +kernel⟩, List.mem_of_getElem? (i := 1107) (by decide +kernel), List.mem_of_getElem? (i := 1281) (by decide +kernel), List.mem_of_getElem? (i := 1282) (by decide +kernel)⟩
theorem lw_p56 : lw_okq (⟨"EncoresModel", "is", "(Ljava/lang/String;)Z"⟩, 35) := ⟨⟨by decide +kernel, by decide +kernel⟩, List.mem_of_getElem? (i := 1107) (by decide +kernel), List.mem_of_getElem? (i := 1286) (by decide +kernel), List.mem_of_getElem? (i := 1287) (by decide +kernel)⟩
theorem lw_p57 : lw_okq (⟨"EncoresModel", "asked", "()I"⟩, 35) := ⟨⟨by decide +kernel, by decide +kernel⟩, List.mem_of_getElem? (i := 1107) (by decide +kernel), List.mem_of_getElem? (i := 1298) (by decide +kernel), List.mem_of_getElem? (i := 1299) (by decide +kernel)⟩
theorem lw_p58 : lw_okq (⟨"EncoresModel", "statuteWord", "()I"⟩, 35) := ⟨⟨by decide +kernel, by decide +kernel⟩, List.mem_of_getElem? (i := 1107) (by decide +kernel), List.mem_of_getElem? (i := 1312) (by decide +kernel), List.mem_of_getElem? (i := 1313) (by decide +kernel)⟩
theorem lw_p59 : lw_okq (⟨"EncoresModel", "readsLaw", "()Z"⟩, 35) := ⟨⟨by decide +kernel, by decide +kernel⟩, List.mem_of_getElem? (i := 1107) (by decide +kernel), List.mem_of_getElem? (i := 1325) (by decide +kernel), List.mem_of_getElem? (i := 1326) (by decide +kernel)⟩
theorem lw_p60 : lw_okq (⟨"EncoresModel", "aLine", "()Z"⟩, 35) := ⟨⟨by decide +kernel, by decide +kernel⟩, List.mem_of_getElem? (i := 1107) (by decide +kernel), List.mem_of_getElem? (i := 1329) (by decide +kernel), List.mem_of_getElem? (i := 1330) (by decide +kernel)⟩
theorem lw_p61 : lw_okq (⟨"EncoresModel", "bad", "(I)Z"⟩, 35) := ⟨⟨by decide +kernel, by decide +kernel⟩, List.mem_of_getElem? (i := 1107) (by decide +kernel), List.mem_of_getElem? (i := 1333) (by decide +kernel), List.mem_of_getElem? (i := 1334) (by decide +kernel)⟩
theorem lw_p62 : lw_okq (⟨"EncoresModel", "sumUp", "()Z"⟩, 35) := ⟨⟨by decide +kernel, by decide +kernel⟩, List.mem_of_getElem? (i := 1107) (by decide +kernel), List.mem_of_getElem? (i := 1337) (by decide +kernel), List.mem_of_getElem? (i := 1338) (by decide +kernel)⟩
theorem lw_p63 : lw_okq (⟨"EncoresModel", "product", "()Z"⟩, 35) := ⟨⟨by decide +kernel, by decide +kernel⟩, List.mem_of_getElem? (i := 1107) (by decide +kernel), List.mem_of_getElem? (i := 1341) (by decide +kernel), List.mem_of_getElem? (i := 1342) (by decide +kernel)⟩
def lw_privs_4 : List (MethodName × Nat) := [(⟨"EncoresModel", "forgets", "()V"⟩, 35), (⟨"EncoresModel", "canSet", "(III)Z"⟩, 35), (⟨"EncoresModel", "isHearer", "(I)Z"⟩, 35), (⟨"EncoresModel", "isDeed", "(I)Z"⟩, 35), (⟨"EncoresModel", "next0", "()V"⟩, 35), (⟨"EncoresModel", "see", "(I)I"⟩, 35), (⟨"EncoresModel", "word", "()I"⟩, 35), (⟨"EncoresModel", "lawWord", "()I"⟩, 35), (⟨"EncoresModel", "is", "(Ljava/lang/String;)Z"⟩, 35), (⟨"EncoresModel", "asked", "()I"⟩, 35), (⟨"EncoresModel", "statuteWord", "()I"⟩, 35), (⟨"EncoresModel", "readsLaw", "()Z"⟩, 35), (⟨"EncoresModel", "aLine", "()Z"⟩, 35), (⟨"EncoresModel", "bad", "(I)Z"⟩, 35), (⟨"EncoresModel", "sumUp", "()Z"⟩, 35), (⟨"EncoresModel", "product", "()Z"⟩, 35)]
theorem lw_r4 : ∀ q ∈ lw_privs_4, lw_okq q := List.forall_mem_cons.mpr ⟨lw_p48, List.forall_mem_cons.mpr ⟨lw_p49, List.forall_mem_cons.mpr ⟨lw_p50, List.forall_mem_cons.mpr ⟨lw_p51, List.forall_mem_cons.mpr ⟨lw_p52, List.forall_mem_cons.mpr ⟨lw_p53, List.forall_mem_cons.mpr ⟨lw_p54, List.forall_mem_cons.mpr ⟨lw_p55, List.forall_mem_cons.mpr ⟨lw_p56, List.forall_mem_cons.mpr ⟨lw_p57, List.forall_mem_cons.mpr ⟨lw_p58, List.forall_mem_cons.mpr ⟨lw_p59, List.forall_mem_cons.mpr ⟨lw_p60, List.forall_mem_cons.mpr ⟨lw_p61, List.forall_mem_cons.mpr ⟨lw_p62, List.forall_mem_cons.mpr ⟨lw_p63, fun _ h => absurd h List.not_mem_nil⟩⟩⟩⟩⟩⟩⟩⟩⟩⟩⟩⟩⟩⟩⟩⟩
theorem lw_p64 : lw_okq (⟨"EncoresModel", "unit", "()Z"⟩, 35) := ⟨⟨by decide +kernel, by decide +kernel⟩, List.mem_of_getElem? (i := 1107) (by decide +kernel), List.mem_of_getElem? (i := 1345) (by decide +kernel), List.mem_of_getElem? (i := 1346) (by decide +kernel)⟩
theorem lw_p65 : lw_okq (⟨"EncoresModel", "lay", "(II)V"⟩, 35) := ⟨⟨by decide +kernel, by decide +kernel⟩, List.mem_of_getElem? (i := 1107) (by decide +kernel), List.mem_of_getElem? (i := 1349) (by decide +kernel), List.mem_of_getElem? (i := 1350) (by decide +kernel)⟩
theorem lw_p66 : lw_okq (⟨"EncoresModel", "any", "()Z"⟩, 35) := ⟨⟨by decide +kernel, by decide +kernel⟩, List.mem_of_getElem? (i := 1107) (by decide +kernel), List.mem_of_getElem? (i := 1353) (by decide +kernel), List.mem_of_getElem? (i := 1354) (by decide +kernel)⟩
theorem lw_p67 : lw_okq (⟨"EncoresModel", "every", "()Z"⟩, 35) := ⟨⟨by decide +kernel, by decide +kernel⟩, List.mem_of_getElem? (i := 1107) (by decide +kernel), List.mem_of_getElem? (i := 1357) (by decide +kernel), List.mem_of_getElem? (i := 1358) (by decide +kernel)⟩
theorem lw_p68 : lw_okq (⟨"EncoresModel", "oneTest", "()Z"⟩, 35) := ⟨⟨by decide +kernel, by decide +kernel⟩, List.mem_of_getElem? (i := 1107) (by decide +kernel), List.mem_of_getElem? (i := 1361) (by decide +kernel), List.mem_of_getElem? (i := 1362) (by decide +kernel)⟩
theorem lw_p69 : lw_okq (⟨"EncoresModel", "opens", "()Z"⟩, 35) := ⟨⟨by decide +kernel, by decide +kernel⟩, List.mem_of_getElem? (i := 1107) (by decide +kernel), List.mem_of_getElem? (i := 1365) (by decide +kernel), List.mem_of_getElem? (i := 1366) (by decide +kernel)⟩
theorem lw_p70 : lw_okq (⟨"EncoresModel", "need", "(I)Z"⟩, 35) := ⟨⟨by decide +kernel, by decide +kernel⟩, List.mem_of_getElem? (i := 1107) (by decide +kernel), List.mem_of_getElem? (i := 1369) (by decide +kernel), List.mem_of_getElem? (i := 1370) (by decide +kernel)⟩
theorem lw_p71 : lw_okq (⟨"EncoresModel", "readsRows", "()Z"⟩, 35) := ⟨⟨by decide +kernel, by decide +kernel⟩, List.mem_of_getElem? (i := 1107) (by decide +kernel), List.mem_of_getElem? (i := 1373) (by decide +kernel), List.mem_of_getElem? (i := 1374) (by decide +kernel)⟩
theorem lw_p72 : lw_okq (⟨"EncoresModel", "begins", "()Z"⟩, 35) := ⟨⟨by decide +kernel, by decide +kernel⟩, List.mem_of_getElem? (i := 1107) (by decide +kernel), List.mem_of_getElem? (i := 1377) (by decide +kernel), List.mem_of_getElem? (i := 1378) (by decide +kernel)⟩
theorem lw_p73 : lw_okq (⟨"EncoresModel", "aRow", "()Z"⟩, 35) := ⟨⟨by decide +kernel, by decide +kernel⟩, List.mem_of_getElem? (i := 1107) (by decide +kernel), List.mem_of_getElem? (i := 1381) (by decide +kernel), List.mem_of_getElem? (i := 1382) (by decide +kernel)⟩
theorem lw_p74 : lw_okq (⟨"EncoresModel", "aRule", "()Z"⟩, 35) := ⟨⟨by decide +kernel, by decide +kernel⟩, List.mem_of_getElem? (i := 1107) (by decide +kernel), List.mem_of_getElem? (i := 1385) (by decide +kernel), List.mem_of_getElem? (i := 1386) (by decide +kernel)⟩
theorem lw_p75 : lw_okq (⟨"EncoresModel", "number", "(III)Z"⟩, 35) := ⟨⟨by decide +kernel, by decide +kernel⟩, List.mem_of_getElem? (i := 1107) (by decide +kernel), List.mem_of_getElem? (i := 1389) (by decide +kernel), List.mem_of_getElem? (i := 1390) (by decide +kernel)⟩
theorem lw_p76 : lw_okq (⟨"EncoresModel", "told", "(IIII)Z"⟩, 35) := ⟨⟨by decide +kernel, by decide +kernel⟩, List.mem_of_getElem? (i := 1107) (by decide +kernel), List.mem_of_getElem? (i := 1393) (by decide +kernel), List.mem_of_getElem? (i := 1394) (by decide +kernel)⟩
theorem lw_p77 : lw_okq (⟨"EncoresModel", "aPiece", "()Z"⟩, 35) := ⟨⟨by decide +kernel, by decide +kernel⟩, List.mem_of_getElem? (i := 1107) (by decide +kernel), List.mem_of_getElem? (i := 1397) (by decide +kernel), List.mem_of_getElem? (i := 1398) (by decide +kernel)⟩
theorem lw_p78 : lw_okq (⟨"EncoresModel", "aSeat", "()Z"⟩, 35) := ⟨⟨by decide +kernel, by decide +kernel⟩, List.mem_of_getElem? (i := 1107) (by decide +kernel), List.mem_of_getElem? (i := 1401) (by decide +kernel), List.mem_of_getElem? (i := 1402) (by decide +kernel)⟩
theorem lw_p79 : lw_okq (⟨"EncoresModel", "putsText", "(I)I"⟩, 35) := ⟨⟨by decide +kernel, by decide +kernel⟩, List.mem_of_getElem? (i := 1107) (by decide +kernel), List.mem_of_getElem? (i := 1405) (by decide +kernel), List.mem_of_getElem? (i := 1406) (by decide +kernel)⟩
def lw_privs_5 : List (MethodName × Nat) := [(⟨"EncoresModel", "unit", "()Z"⟩, 35), (⟨"EncoresModel", "lay", "(II)V"⟩, 35), (⟨"EncoresModel", "any", "()Z"⟩, 35), (⟨"EncoresModel", "every", "()Z"⟩, 35), (⟨"EncoresModel", "oneTest", "()Z"⟩, 35), (⟨"EncoresModel", "opens", "()Z"⟩, 35), (⟨"EncoresModel", "need", "(I)Z"⟩, 35), (⟨"EncoresModel", "readsRows", "()Z"⟩, 35), (⟨"EncoresModel", "begins", "()Z"⟩, 35), (⟨"EncoresModel", "aRow", "()Z"⟩, 35), (⟨"EncoresModel", "aRule", "()Z"⟩, 35), (⟨"EncoresModel", "number", "(III)Z"⟩, 35), (⟨"EncoresModel", "told", "(IIII)Z"⟩, 35), (⟨"EncoresModel", "aPiece", "()Z"⟩, 35), (⟨"EncoresModel", "aSeat", "()Z"⟩, 35), (⟨"EncoresModel", "putsText", "(I)I"⟩, 35)]
theorem lw_r5 : ∀ q ∈ lw_privs_5, lw_okq q := List.forall_mem_cons.mpr ⟨lw_p64, List.forall_mem_cons.mpr ⟨lw_p65, List.forall_mem_cons.mpr ⟨lw_p66, List.forall_mem_cons.mpr ⟨lw_p67, List.forall_mem_cons.mpr ⟨lw_p68, List.forall_mem_cons.mpr ⟨lw_p69, List.forall_mem_cons.mpr ⟨lw_p70, List.forall_mem_cons.mpr ⟨lw_p71, List.forall_mem_cons.mpr ⟨lw_p72, List.forall_mem_cons.mpr ⟨lw_p73, List.forall_mem_cons.mpr ⟨lw_p74, List.forall_mem_cons.mpr ⟨lw_p75, List.forall_mem_cons.mpr ⟨lw_p76, List.forall_mem_cons.mpr ⟨lw_p77, List.forall_mem_cons.mpr ⟨lw_p78, List.forall_mem_cons.mpr ⟨lw_p79, fun _ h => absurd h List.not_mem_nil⟩⟩⟩⟩⟩⟩⟩⟩⟩⟩⟩⟩⟩⟩⟩⟩
theorem lw_p80 : lw_okq (⟨"EncoresModel", "putsLaw", "()I"⟩, 35) := ⟨⟨by decide +kernel, by decide +kernel⟩, List.mem_of_getElem? (i := 1107) (by decide +kernel), List.mem_of_getElem? (i := 1409) (by decide +kernel), List.mem_of_getElem? (i := 1410) (by decide +kernel)⟩
theorem lw_p81 : lw_okq (⟨"EncoresModel", "puts", "(III)I"⟩, 35) := ⟨⟨by decide +kernel, by decide +kernel⟩, List.mem_of_getElem? (i := 1107) (by decide +kernel), List.mem_of_getElem? (i := 1413) (by decide +kernel), List.mem_of_getElem? (i := 1414) (by decide +kernel)⟩
theorem lw_p82 : lw_okq (⟨"EncoresModel", "putsGallery", "()I"⟩, 35) := ⟨⟨by decide +kernel, by decide +kernel⟩, List.mem_of_getElem? (i := 1107) (by decide +kernel), List.mem_of_getElem? (i := 1417) (by decide +kernel), List.mem_of_getElem? (i := 1418) (by decide +kernel)⟩
theorem lw_p83 : lw_okq (⟨"EncoresModel", "keeps", "()V"⟩, 35) := ⟨⟨by decide +kernel, by decide +kernel⟩, List.mem_of_getElem? (i := 1107) (by decide +kernel), List.mem_of_getElem? (i := 1433) (by decide +kernel), List.mem_of_getElem? (i := 1434) (by decide +kernel)⟩
theorem lw_p84 : lw_okq (⟨"EncoresModel", "does", "(I)I"⟩, 35) := ⟨⟨by decide +kernel, by decide +kernel⟩, List.mem_of_getElem? (i := 1107) (by decide +kernel), List.mem_of_getElem? (i := 1437) (by decide +kernel), List.mem_of_getElem? (i := 1438) (by decide +kernel)⟩
theorem lw_p85 : lw_okq (⟨"EncoresModel", "begins0", "(I)V"⟩, 35) := ⟨⟨by decide +kernel, by decide +kernel⟩, List.mem_of_getElem? (i := 1107) (by decide +kernel), List.mem_of_getElem? (i := 1441) (by decide +kernel), List.mem_of_getElem? (i := 1442) (by decide +kernel)⟩
theorem lw_p86 : lw_okq (⟨"EncoresModel", "wearsOf", "(I)I"⟩, 35) := ⟨⟨by decide +kernel, by decide +kernel⟩, List.mem_of_getElem? (i := 1107) (by decide +kernel), List.mem_of_getElem? (i := 1445) (by decide +kernel), List.mem_of_getElem? (i := 1446) (by decide +kernel)⟩
theorem lw_p87 : lw_okq (⟨"EncoresModel", "laysDeed", "(I)V"⟩, 35) := ⟨⟨by decide +kernel, by decide +kernel⟩, List.mem_of_getElem? (i := 1107) (by decide +kernel), List.mem_of_getElem? (i := 1449) (by decide +kernel), List.mem_of_getElem? (i := 1450) (by decide +kernel)⟩
theorem lw_p88 : lw_okq (⟨"EncoresModel", "says", "(III)I"⟩, 35) := ⟨⟨by decide +kernel, by decide +kernel⟩, List.mem_of_getElem? (i := 1107) (by decide +kernel), List.mem_of_getElem? (i := 1453) (by decide +kernel), List.mem_of_getElem? (i := 1454) (by decide +kernel)⟩
theorem lw_p89 : lw_okq (⟨"EncoresModel", "isSo", "(I)Z"⟩, 35) := ⟨⟨by decide +kernel, by decide +kernel⟩, List.mem_of_getElem? (i := 1107) (by decide +kernel), List.mem_of_getElem? (i := 1457) (by decide +kernel), List.mem_of_getElem? (i := 1458) (by decide +kernel)⟩
theorem lw_p90 : lw_okq (⟨"EncoresModel", "comesTo", "(III)I"⟩, 35) := ⟨⟨by decide +kernel, by decide +kernel⟩, List.mem_of_getElem? (i := 1107) (by decide +kernel), List.mem_of_getElem? (i := 1461) (by decide +kernel), List.mem_of_getElem? (i := 1462) (by decide +kernel)⟩
theorem lw_p91 : lw_okq (⟨"EncoresModel", "claps", "(I)V"⟩, 35) := ⟨⟨by decide +kernel, by decide +kernel⟩, List.mem_of_getElem? (i := 1107) (by decide +kernel), List.mem_of_getElem? (i := 1474) (by decide +kernel), List.mem_of_getElem? (i := 1475) (by decide +kernel)⟩
theorem lw_p92 : lw_okq (⟨"EncoresModel", "isThere", "(I)Z"⟩, 35) := ⟨⟨by decide +kernel, by decide +kernel⟩, List.mem_of_getElem? (i := 1107) (by decide +kernel), List.mem_of_getElem? (i := 1478) (by decide +kernel), List.mem_of_getElem? (i := 1479) (by decide +kernel)⟩
theorem lw_p93 : lw_okq (⟨"EncoresModel", "draw", "(I)I"⟩, 35) := ⟨⟨by decide +kernel, by decide +kernel⟩, List.mem_of_getElem? (i := 1107) (by decide +kernel), List.mem_of_getElem? (i := 1482) (by decide +kernel), List.mem_of_getElem? (i := 1483) (by decide +kernel)⟩
theorem lw_p94 : lw_okq (⟨"EncoresModel", "aRound", "(I)Z"⟩, 35) := ⟨⟨by decide +kernel, by decide +kernel⟩, List.mem_of_getElem? (i := 1107) (by decide +kernel), List.mem_of_getElem? (i := 1488) (by decide +kernel), List.mem_of_getElem? (i := 1489) (by decide +kernel)⟩
theorem lw_p95 : lw_okq (⟨"EncoresModel", "isGloved", "(I)Z"⟩, 35) := ⟨⟨by decide +kernel, by decide +kernel⟩, List.mem_of_getElem? (i := 1107) (by decide +kernel), List.mem_of_getElem? (i := 1492) (by decide +kernel), List.mem_of_getElem? (i := 1493) (by decide +kernel)⟩
def lw_privs_6 : List (MethodName × Nat) := [(⟨"EncoresModel", "putsLaw", "()I"⟩, 35), (⟨"EncoresModel", "puts", "(III)I"⟩, 35), (⟨"EncoresModel", "putsGallery", "()I"⟩, 35), (⟨"EncoresModel", "keeps", "()V"⟩, 35), (⟨"EncoresModel", "does", "(I)I"⟩, 35), (⟨"EncoresModel", "begins0", "(I)V"⟩, 35), (⟨"EncoresModel", "wearsOf", "(I)I"⟩, 35), (⟨"EncoresModel", "laysDeed", "(I)V"⟩, 35), (⟨"EncoresModel", "says", "(III)I"⟩, 35), (⟨"EncoresModel", "isSo", "(I)Z"⟩, 35), (⟨"EncoresModel", "comesTo", "(III)I"⟩, 35), (⟨"EncoresModel", "claps", "(I)V"⟩, 35), (⟨"EncoresModel", "isThere", "(I)Z"⟩, 35), (⟨"EncoresModel", "draw", "(I)I"⟩, 35), (⟨"EncoresModel", "aRound", "(I)Z"⟩, 35), (⟨"EncoresModel", "isGloved", "(I)Z"⟩, 35)]
theorem lw_r6 : ∀ q ∈ lw_privs_6, lw_okq q := List.forall_mem_cons.mpr ⟨lw_p80, List.forall_mem_cons.mpr ⟨lw_p81, List.forall_mem_cons.mpr ⟨lw_p82, List.forall_mem_cons.mpr ⟨lw_p83, List.forall_mem_cons.mpr ⟨lw_p84, List.forall_mem_cons.mpr ⟨lw_p85, List.forall_mem_cons.mpr ⟨lw_p86, List.forall_mem_cons.mpr ⟨lw_p87, List.forall_mem_cons.mpr ⟨lw_p88, List.forall_mem_cons.mpr ⟨lw_p89, List.forall_mem_cons.mpr ⟨lw_p90, List.forall_mem_cons.mpr ⟨lw_p91, List.forall_mem_cons.mpr ⟨lw_p92, List.forall_mem_cons.mpr ⟨lw_p93, List.forall_mem_cons.mpr ⟨lw_p94, List.forall_mem_cons.mpr ⟨lw_p95, fun _ h => absurd h List.not_mem_nil⟩⟩⟩⟩⟩⟩⟩⟩⟩⟩⟩⟩⟩⟩⟩⟩
theorem lw_p96 : lw_okq (⟨"EncoresModel", "clapOf", "(III)I"⟩, 35) := ⟨⟨by decide +kernel, by decide +kernel⟩, List.mem_of_getElem? (i := 1107) (by decide +kernel), List.mem_of_getElem? (i := 1499) (by decide +kernel), List.mem_of_getElem? (i := 1500) (by decide +kernel)⟩
theorem lw_p97 : lw_okq (⟨"EncoresModel", "notes", "(III)V"⟩, 35) := ⟨⟨by decide +kernel, by decide +kernel⟩, List.mem_of_getElem? (i := 1107) (by decide +kernel), List.mem_of_getElem? (i := 1503) (by decide +kernel), List.mem_of_getElem? (i := 1504) (by decide +kernel)⟩
theorem lw_p98 : lw_okq (⟨"EncoresModel", "loudOf", "(I)I"⟩, 35) := ⟨⟨by decide +kernel, by decide +kernel⟩, List.mem_of_getElem? (i := 1107) (by decide +kernel), List.mem_of_getElem? (i := 1507) (by decide +kernel), List.mem_of_getElem? (i := 1508) (by decide +kernel)⟩
theorem lw_p99 : lw_okq (⟨"EncoresModel", "handsClapping", "()I"⟩, 35) := ⟨⟨by decide +kernel, by decide +kernel⟩, List.mem_of_getElem? (i := 1107) (by decide +kernel), List.mem_of_getElem? (i := 1511) (by decide +kernel), List.mem_of_getElem? (i := 1512) (by decide +kernel)⟩
theorem lw_p100 : lw_okq (⟨"EncoresModel", "countsAs", "(I)I"⟩, 35) := ⟨⟨by decide +kernel, by decide +kernel⟩, List.mem_of_getElem? (i := 1107) (by decide +kernel), List.mem_of_getElem? (i := 1515) (by decide +kernel), List.mem_of_getElem? (i := 1516) (by decide +kernel)⟩
theorem lw_p101 : lw_okq (⟨"EncoresModel", "handsAsked", "()I"⟩, 35) := ⟨⟨by decide +kernel, by decide +kernel⟩, List.mem_of_getElem? (i := 1107) (by decide +kernel), List.mem_of_getElem? (i := 1519) (by decide +kernel), List.mem_of_getElem? (i := 1520) (by decide +kernel)⟩
theorem lw_p102 : lw_okq (⟨"EncoresModel", "mostAgains", "()I"⟩, 35) := ⟨⟨by decide +kernel, by decide +kernel⟩, List.mem_of_getElem? (i := 1107) (by decide +kernel), List.mem_of_getElem? (i := 1523) (by decide +kernel), List.mem_of_getElem? (i := 1524) (by decide +kernel)⟩
theorem lw_p103 : lw_okq (⟨"EncoresModel", "lastRule", "(II)I"⟩, 35) := ⟨⟨by decide +kernel, by decide +kernel⟩, List.mem_of_getElem? (i := 1107) (by decide +kernel), List.mem_of_getElem? (i := 1527) (by decide +kernel), List.mem_of_getElem? (i := 1528) (by decide +kernel)⟩
theorem lw_p104 : lw_okq (⟨"EncoresModel", "endsAt", "()I"⟩, 35) := ⟨⟨by decide +kernel, by decide +kernel⟩, List.mem_of_getElem? (i := 1107) (by decide +kernel), List.mem_of_getElem? (i := 1531) (by decide +kernel), List.mem_of_getElem? (i := 1532) (by decide +kernel)⟩
theorem lw_p105 : lw_okq (⟨"EncoresModel", "anEvening", "()I"⟩, 35) := ⟨⟨by decide +kernel, by decide +kernel⟩, List.mem_of_getElem? (i := 1107) (by decide +kernel), List.mem_of_getElem? (i := 1551) (by decide +kernel), List.mem_of_getElem? (i := 1552) (by decide +kernel)⟩
theorem lw_p106 : lw_okq (⟨"EncoresModel", "lays", "()V"⟩, 35) := ⟨⟨by decide +kernel, by decide +kernel⟩, List.mem_of_getElem? (i := 1107) (by decide +kernel), List.mem_of_getElem? (i := 1576) (by decide +kernel), List.mem_of_getElem? (i := 1577) (by decide +kernel)⟩
theorem lw_p107 : lw_okq (⟨"EncoresModel", "putsBack", "()V"⟩, 35) := ⟨⟨by decide +kernel, by decide +kernel⟩, List.mem_of_getElem? (i := 1107) (by decide +kernel), List.mem_of_getElem? (i := 1580) (by decide +kernel), List.mem_of_getElem? (i := 1581) (by decide +kernel)⟩
theorem lw_p108 : lw_okq (⟨"EncoresModel", "doneWithout", "(II)I"⟩, 35) := ⟨⟨by decide +kernel, by decide +kernel⟩, List.mem_of_getElem? (i := 1107) (by decide +kernel), List.mem_of_getElem? (i := 1592) (by decide +kernel), List.mem_of_getElem? (i := 1593) (by decide +kernel)⟩
theorem lw_p109 : lw_okq (⟨"EncoresModel", "doneWithGloves", "(II)I"⟩, 35) := ⟨⟨by decide +kernel, by decide +kernel⟩, List.mem_of_getElem? (i := 1107) (by decide +kernel), List.mem_of_getElem? (i := 1600) (by decide +kernel), List.mem_of_getElem? (i := 1601) (by decide +kernel)⟩
theorem lw_p110 : lw_okq (⟨"EncoresModel", "longOf", "(I)I"⟩, 35) := ⟨⟨by decide +kernel, by decide +kernel⟩, List.mem_of_getElem? (i := 1107) (by decide +kernel), List.mem_of_getElem? (i := 1625) (by decide +kernel), List.mem_of_getElem? (i := 1626) (by decide +kernel)⟩
theorem lw_p111 : lw_okq (⟨"EncoresModel", "worthOf", "(I)I"⟩, 35) := ⟨⟨by decide +kernel, by decide +kernel⟩, List.mem_of_getElem? (i := 1107) (by decide +kernel), List.mem_of_getElem? (i := 1629) (by decide +kernel), List.mem_of_getElem? (i := 1630) (by decide +kernel)⟩
def lw_privs_7 : List (MethodName × Nat) := [(⟨"EncoresModel", "clapOf", "(III)I"⟩, 35), (⟨"EncoresModel", "notes", "(III)V"⟩, 35), (⟨"EncoresModel", "loudOf", "(I)I"⟩, 35), (⟨"EncoresModel", "handsClapping", "()I"⟩, 35), (⟨"EncoresModel", "countsAs", "(I)I"⟩, 35), (⟨"EncoresModel", "handsAsked", "()I"⟩, 35), (⟨"EncoresModel", "mostAgains", "()I"⟩, 35), (⟨"EncoresModel", "lastRule", "(II)I"⟩, 35), (⟨"EncoresModel", "endsAt", "()I"⟩, 35), (⟨"EncoresModel", "anEvening", "()I"⟩, 35), (⟨"EncoresModel", "lays", "()V"⟩, 35), (⟨"EncoresModel", "putsBack", "()V"⟩, 35), (⟨"EncoresModel", "doneWithout", "(II)I"⟩, 35), (⟨"EncoresModel", "doneWithGloves", "(II)I"⟩, 35), (⟨"EncoresModel", "longOf", "(I)I"⟩, 35), (⟨"EncoresModel", "worthOf", "(I)I"⟩, 35)]
theorem lw_r7 : ∀ q ∈ lw_privs_7, lw_okq q := List.forall_mem_cons.mpr ⟨lw_p96, List.forall_mem_cons.mpr ⟨lw_p97, List.forall_mem_cons.mpr ⟨lw_p98, List.forall_mem_cons.mpr ⟨lw_p99, List.forall_mem_cons.mpr ⟨lw_p100, List.forall_mem_cons.mpr ⟨lw_p101, List.forall_mem_cons.mpr ⟨lw_p102, List.forall_mem_cons.mpr ⟨lw_p103, List.forall_mem_cons.mpr ⟨lw_p104, List.forall_mem_cons.mpr ⟨lw_p105, List.forall_mem_cons.mpr ⟨lw_p106, List.forall_mem_cons.mpr ⟨lw_p107, List.forall_mem_cons.mpr ⟨lw_p108, List.forall_mem_cons.mpr ⟨lw_p109, List.forall_mem_cons.mpr ⟨lw_p110, List.forall_mem_cons.mpr ⟨lw_p111, fun _ h => absurd h List.not_mem_nil⟩⟩⟩⟩⟩⟩⟩⟩⟩⟩⟩⟩⟩⟩⟩⟩
theorem lw_p112 : lw_okq (⟨"EncoresModel", "laysLines", "()V"⟩, 35) := ⟨⟨by decide +kernel, by decide +kernel⟩, List.mem_of_getElem? (i := 1107) (by decide +kernel), List.mem_of_getElem? (i := 1645) (by decide +kernel), List.mem_of_getElem? (i := 1646) (by decide +kernel)⟩
theorem lw_p113 : lw_okq (⟨"EncoresModel", "leastWith", "(II)I"⟩, 35) := ⟨⟨by decide +kernel, by decide +kernel⟩, List.mem_of_getElem? (i := 1107) (by decide +kernel), List.mem_of_getElem? (i := 1650) (by decide +kernel), List.mem_of_getElem? (i := 1651) (by decide +kernel)⟩
theorem lw_p114 : lw_okq (⟨"EncoresModel", "allHearers", "()I"⟩, 35) := ⟨⟨by decide +kernel, by decide +kernel⟩, List.mem_of_getElem? (i := 1107) (by decide +kernel), List.mem_of_getElem? (i := 1658) (by decide +kernel), List.mem_of_getElem? (i := 1659) (by decide +kernel)⟩
theorem lw_p115 : lw_okq (⟨"EncoresModel", "couldBe", "(I)Z"⟩, 35) := ⟨⟨by decide +kernel, by decide +kernel⟩, List.mem_of_getElem? (i := 1107) (by decide +kernel), List.mem_of_getElem? (i := 1666) (by decide +kernel), List.mem_of_getElem? (i := 1667) (by decide +kernel)⟩
theorem lw_p116 : lw_okq (⟨"EncoresModel", "bestAsked", "(I)I"⟩, 35) := ⟨⟨by decide +kernel, by decide +kernel⟩, List.mem_of_getElem? (i := 1107) (by decide +kernel), List.mem_of_getElem? (i := 1670) (by decide +kernel), List.mem_of_getElem? (i := 1671) (by decide +kernel)⟩
theorem lw_p117 : lw_okq (⟨"EncoresModel", "nearTo", "(III)I"⟩, 35) := ⟨⟨by decide +kernel, by decide +kernel⟩, List.mem_of_getElem? (i := 1107) (by decide +kernel), List.mem_of_getElem? (i := 1678) (by decide +kernel), List.mem_of_getElem? (i := 1679) (by decide +kernel)⟩
theorem lw_p118 : lw_okq (⟨"EncoresModel", "passedBy", "(II)I"⟩, 35) := ⟨⟨by decide +kernel, by decide +kernel⟩, List.mem_of_getElem? (i := 1107) (by decide +kernel), List.mem_of_getElem? (i := 1698) (by decide +kernel), List.mem_of_getElem? (i := 1699) (by decide +kernel)⟩
theorem lw_p119 : lw_okq (⟨"EncoresModel", "wasThere", "(II)I"⟩, 35) := ⟨⟨by decide +kernel, by decide +kernel⟩, List.mem_of_getElem? (i := 1107) (by decide +kernel), List.mem_of_getElem? (i := 1702) (by decide +kernel), List.mem_of_getElem? (i := 1703) (by decide +kernel)⟩
theorem lw_p120 : lw_okq (⟨"EncoresModel", "allWeights", "()I"⟩, 35) := ⟨⟨by decide +kernel, by decide +kernel⟩, List.mem_of_getElem? (i := 1107) (by decide +kernel), List.mem_of_getElem? (i := 1710) (by decide +kernel), List.mem_of_getElem? (i := 1711) (by decide +kernel)⟩
theorem lw_p121 : lw_okq (⟨"EncoresModel", "weightOf", "(I)I"⟩, 35) := ⟨⟨by decide +kernel, by decide +kernel⟩, List.mem_of_getElem? (i := 1107) (by decide +kernel), List.mem_of_getElem? (i := 1714) (by decide +kernel), List.mem_of_getElem? (i := 1715) (by decide +kernel)⟩
theorem lw_p122 : lw_okq (⟨"EncoresModel", "paidOnes", "()I"⟩, 35) := ⟨⟨by decide +kernel, by decide +kernel⟩, List.mem_of_getElem? (i := 1107) (by decide +kernel), List.mem_of_getElem? (i := 1722) (by decide +kernel), List.mem_of_getElem? (i := 1723) (by decide +kernel)⟩
theorem lw_p123 : lw_okq (⟨"EncoresModel", "laysNims", "()V"⟩, 35) := ⟨⟨by decide +kernel, by decide +kernel⟩, List.mem_of_getElem? (i := 1107) (by decide +kernel), List.mem_of_getElem? (i := 1731) (by decide +kernel), List.mem_of_getElem? (i := 1732) (by decide +kernel)⟩
def lw_privs_8 : List (MethodName × Nat) := [(⟨"EncoresModel", "laysLines", "()V"⟩, 35), (⟨"EncoresModel", "leastWith", "(II)I"⟩, 35), (⟨"EncoresModel", "allHearers", "()I"⟩, 35), (⟨"EncoresModel", "couldBe", "(I)Z"⟩, 35), (⟨"EncoresModel", "bestAsked", "(I)I"⟩, 35), (⟨"EncoresModel", "nearTo", "(III)I"⟩, 35), (⟨"EncoresModel", "passedBy", "(II)I"⟩, 35), (⟨"EncoresModel", "wasThere", "(II)I"⟩, 35), (⟨"EncoresModel", "allWeights", "()I"⟩, 35), (⟨"EncoresModel", "weightOf", "(I)I"⟩, 35), (⟨"EncoresModel", "paidOnes", "()I"⟩, 35), (⟨"EncoresModel", "laysNims", "()V"⟩, 35)]
theorem lw_r8 : ∀ q ∈ lw_privs_8, lw_okq q := List.forall_mem_cons.mpr ⟨lw_p112, List.forall_mem_cons.mpr ⟨lw_p113, List.forall_mem_cons.mpr ⟨lw_p114, List.forall_mem_cons.mpr ⟨lw_p115, List.forall_mem_cons.mpr ⟨lw_p116, List.forall_mem_cons.mpr ⟨lw_p117, List.forall_mem_cons.mpr ⟨lw_p118, List.forall_mem_cons.mpr ⟨lw_p119, List.forall_mem_cons.mpr ⟨lw_p120, List.forall_mem_cons.mpr ⟨lw_p121, List.forall_mem_cons.mpr ⟨lw_p122, List.forall_mem_cons.mpr ⟨lw_p123, fun _ h => absurd h List.not_mem_nil⟩⟩⟩⟩⟩⟩⟩⟩⟩⟩⟩⟩
def lw_privs : List (MethodName × Nat) := lw_privs_1 ++ (lw_privs_2 ++ (lw_privs_3 ++ (lw_privs_4 ++ (lw_privs_5 ++ (lw_privs_6 ++ (lw_privs_7 ++ (lw_privs_8)))))))
def lw_tbl : List Cond := k2_sels lw_privs ++ tables_1
theorem lw_privs_ok : ∀ q ∈ lw_privs, lw_okq q := by
  show ∀ q ∈ lw_privs_1 ++ (lw_privs_2 ++ (lw_privs_3 ++ (lw_privs_4 ++ (lw_privs_5 ++ (lw_privs_6 ++ (lw_privs_7 ++ (lw_privs_8))))))), lw_okq q
  exact List.forall_mem_append.mpr ⟨lw_r1, List.forall_mem_append.mpr ⟨lw_r2, List.forall_mem_append.mpr ⟨lw_r3, List.forall_mem_append.mpr ⟨lw_r4, List.forall_mem_append.mpr ⟨lw_r5, List.forall_mem_append.mpr ⟨lw_r6, List.forall_mem_append.mpr ⟨lw_r7, lw_r8⟩⟩⟩⟩⟩⟩⟩
end
section
abbrev MD : Type := ByteArray × MethodName × Nat × Option FieldType
def TB : List Cond := lw_tbl.filter goodWord
theorem tb_of {w : Cond} (h : w ∈ lw_tbl) (g : goodWord w = true) : w ∈ TB := List.mem_filter.mpr ⟨h, g⟩
theorem tb_in {w : Cond} (h : w ∈ TB) : w ∈ lw_tbl := (List.mem_filter.mp h).1
theorem tb_good : GoodIn TB TB := fun w h => ⟨h, good_of_word (List.mem_filter.mp h).2⟩
theorem tb_t {w : Cond} (h : w ∈ tables_1) (g : goodWord w = true) : w ∈ TB := tb_of (List.mem_append_right _ h) g
theorem tb_1 {w : Cond} (i : Nat) (h0 : tables_1_1[i]? = some w) (g : goodWord w = true) : w ∈ TB := have h := List.mem_of_getElem? h0; tb_t (List.mem_append_left _ (h)) g
theorem tb_2 {w : Cond} (i : Nat) (h0 : tables_1_2[i]? = some w) (g : goodWord w = true) : w ∈ TB := have h := List.mem_of_getElem? h0; tb_t (List.mem_append_right _ (List.mem_append_left _ (h))) g
theorem tb_3 {w : Cond} (i : Nat) (h0 : tables_1_3[i]? = some w) (g : goodWord w = true) : w ∈ TB := have h := List.mem_of_getElem? h0; tb_t (List.mem_append_right _ (List.mem_append_right _ (List.mem_append_left _ (h)))) g
theorem tb_4 {w : Cond} (i : Nat) (h0 : tables_1_4[i]? = some w) (g : goodWord w = true) : w ∈ TB := have h := List.mem_of_getElem? h0; tb_t (List.mem_append_right _ (List.mem_append_right _ (List.mem_append_right _ (List.mem_append_left _ (h))))) g
theorem tb_5 {w : Cond} (i : Nat) (h0 : tables_1_5[i]? = some w) (g : goodWord w = true) : w ∈ TB := have h := List.mem_of_getElem? h0; tb_t (List.mem_append_right _ (List.mem_append_right _ (List.mem_append_right _ (List.mem_append_right _ (List.mem_append_left _ (h)))))) g
theorem tb_6 {w : Cond} (i : Nat) (h0 : tables_1_6[i]? = some w) (g : goodWord w = true) : w ∈ TB := have h := List.mem_of_getElem? h0; tb_t (List.mem_append_right _ (List.mem_append_right _ (List.mem_append_right _ (List.mem_append_right _ (List.mem_append_right _ (List.mem_append_left _ (h))))))) g
theorem tb_7 {w : Cond} (i : Nat) (h0 : tables_1_7[i]? = some w) (g : goodWord w = true) : w ∈ TB := have h := List.mem_of_getElem? h0; tb_t (List.mem_append_right _ (List.mem_append_right _ (List.mem_append_right _ (List.mem_append_right _ (List.mem_append_right _ (List.mem_append_right _ (List.mem_append_left _ (h)))))))) g
theorem tb_8 {w : Cond} (i : Nat) (h0 : tables_1_8[i]? = some w) (g : goodWord w = true) : w ∈ TB := have h := List.mem_of_getElem? h0; tb_t (List.mem_append_right _ (List.mem_append_right _ (List.mem_append_right _ (List.mem_append_right _ (List.mem_append_right _ (List.mem_append_right _ (List.mem_append_right _ (h)))))))) g
theorem tp_1 {q : MethodName × Nat} (i : Nat) (h0 : lw_privs_1[i]? = some q) (g : goodWord (Cond.selects q.1.cls q.1 q.1) = true) : Cond.selects q.1.cls q.1 q.1 ∈ TB := have h := List.mem_of_getElem? h0; have h2 : q ∈ lw_privs := List.mem_append_left _ (h); tb_of (List.mem_append_left _ (List.mem_map_of_mem (f := fun q : MethodName × Nat => Cond.selects q.1.cls q.1 q.1) h2)) g
theorem tp_2 {q : MethodName × Nat} (i : Nat) (h0 : lw_privs_2[i]? = some q) (g : goodWord (Cond.selects q.1.cls q.1 q.1) = true) : Cond.selects q.1.cls q.1 q.1 ∈ TB := have h := List.mem_of_getElem? h0; have h2 : q ∈ lw_privs := List.mem_append_right _ (List.mem_append_left _ (h)); tb_of (List.mem_append_left _ (List.mem_map_of_mem (f := fun q : MethodName × Nat => Cond.selects q.1.cls q.1 q.1) h2)) g
theorem tp_3 {q : MethodName × Nat} (i : Nat) (h0 : lw_privs_3[i]? = some q) (g : goodWord (Cond.selects q.1.cls q.1 q.1) = true) : Cond.selects q.1.cls q.1 q.1 ∈ TB := have h := List.mem_of_getElem? h0; have h2 : q ∈ lw_privs := List.mem_append_right _ (List.mem_append_right _ (List.mem_append_left _ (h))); tb_of (List.mem_append_left _ (List.mem_map_of_mem (f := fun q : MethodName × Nat => Cond.selects q.1.cls q.1 q.1) h2)) g
theorem tp_4 {q : MethodName × Nat} (i : Nat) (h0 : lw_privs_4[i]? = some q) (g : goodWord (Cond.selects q.1.cls q.1 q.1) = true) : Cond.selects q.1.cls q.1 q.1 ∈ TB := have h := List.mem_of_getElem? h0; have h2 : q ∈ lw_privs := List.mem_append_right _ (List.mem_append_right _ (List.mem_append_right _ (List.mem_append_left _ (h)))); tb_of (List.mem_append_left _ (List.mem_map_of_mem (f := fun q : MethodName × Nat => Cond.selects q.1.cls q.1 q.1) h2)) g
theorem tp_5 {q : MethodName × Nat} (i : Nat) (h0 : lw_privs_5[i]? = some q) (g : goodWord (Cond.selects q.1.cls q.1 q.1) = true) : Cond.selects q.1.cls q.1 q.1 ∈ TB := have h := List.mem_of_getElem? h0; have h2 : q ∈ lw_privs := List.mem_append_right _ (List.mem_append_right _ (List.mem_append_right _ (List.mem_append_right _ (List.mem_append_left _ (h))))); tb_of (List.mem_append_left _ (List.mem_map_of_mem (f := fun q : MethodName × Nat => Cond.selects q.1.cls q.1 q.1) h2)) g
theorem tp_6 {q : MethodName × Nat} (i : Nat) (h0 : lw_privs_6[i]? = some q) (g : goodWord (Cond.selects q.1.cls q.1 q.1) = true) : Cond.selects q.1.cls q.1 q.1 ∈ TB := have h := List.mem_of_getElem? h0; have h2 : q ∈ lw_privs := List.mem_append_right _ (List.mem_append_right _ (List.mem_append_right _ (List.mem_append_right _ (List.mem_append_right _ (List.mem_append_left _ (h)))))); tb_of (List.mem_append_left _ (List.mem_map_of_mem (f := fun q : MethodName × Nat => Cond.selects q.1.cls q.1 q.1) h2)) g
theorem tp_7 {q : MethodName × Nat} (i : Nat) (h0 : lw_privs_7[i]? = some q) (g : goodWord (Cond.selects q.1.cls q.1 q.1) = true) : Cond.selects q.1.cls q.1 q.1 ∈ TB := have h := List.mem_of_getElem? h0; have h2 : q ∈ lw_privs := List.mem_append_right _ (List.mem_append_right _ (List.mem_append_right _ (List.mem_append_right _ (List.mem_append_right _ (List.mem_append_right _ (List.mem_append_left _ (h))))))); tb_of (List.mem_append_left _ (List.mem_map_of_mem (f := fun q : MethodName × Nat => Cond.selects q.1.cls q.1 q.1) h2)) g
theorem tp_8 {q : MethodName × Nat} (i : Nat) (h0 : lw_privs_8[i]? = some q) (g : goodWord (Cond.selects q.1.cls q.1 q.1) = true) : Cond.selects q.1.cls q.1 q.1 ∈ TB := have h := List.mem_of_getElem? h0; have h2 : q ∈ lw_privs := List.mem_append_right _ (List.mem_append_right _ (List.mem_append_right _ (List.mem_append_right _ (List.mem_append_right _ (List.mem_append_right _ (List.mem_append_right _ (h))))))); tb_of (List.mem_append_left _ (List.mem_map_of_mem (f := fun q : MethodName × Nat => Cond.selects q.1.cls q.1 q.1) h2)) g
def KM (M : MD) (n : Nat) : Prop := Cond.code M.2.1 M.1 M.2.2.1 M.2.2.2 ∈ TB ∧ Cond.initialized M.2.1.cls ∈ TB ∧ (M.2.1.cls ≠ "java/lang/invoke/MethodHandle" ∧ M.2.1.cls ≠ "java/lang/invoke/VarHandle" ∧ (parseMethodDescriptor M.2.1.desc).map (fun d => d.parameters.length) = some n) ∧ plainName M.2.1.cls = true
theorem wi_Encores : Cond.initialized "Encores" ∈ TB := tb_1 1 rfl rfl
theorem wi_Encores_Fewest : Cond.initialized "Encores$Fewest" ∈ TB := tb_1 11 rfl rfl
theorem wi_Encores_House : Cond.initialized "Encores$House" ∈ TB := tb_1 2 rfl rfl
theorem wi_Encores_Law : Cond.initialized "Encores$Law" ∈ TB := tb_1 9 rfl rfl
theorem wi_Encores_Moment : Cond.initialized "Encores$Moment" ∈ TB := tb_1 6 rfl rfl
theorem wi_Encores_Past : Cond.initialized "Encores$Past" ∈ TB := tb_1 5 rfl rfl
theorem wi_Encores_Programme : Cond.initialized "Encores$Programme" ∈ TB := tb_1 13 rfl rfl
theorem wi_Encores_Reader : Cond.initialized "Encores$Reader" ∈ TB := tb_1 8 rfl rfl
theorem wi_Encores_Seats : Cond.initialized "Encores$Seats" ∈ TB := tb_1 12 rfl rfl
theorem wi_Encores_Stage : Cond.initialized "Encores$Stage" ∈ TB := tb_1 10 rfl rfl
theorem wi_Encores_Table : Cond.initialized "Encores$Table" ∈ TB := tb_1 3 rfl rfl
theorem wi_Encores_Tape : Cond.initialized "Encores$Tape" ∈ TB := tb_1 7 rfl rfl
theorem wi_EncoresLaw : Cond.initialized "EncoresLaw" ∈ TB := tb_1 0 rfl rfl
theorem wi_EncoresModel : Cond.initialized "EncoresModel" ∈ TB := tb_1 14 rfl rfl
theorem wi_java_lang_Integer : Cond.initialized "java/lang/Integer" ∈ TB := tb_1 16 rfl rfl
theorem wi_java_lang_Math : Cond.initialized "java/lang/Math" ∈ TB := tb_1 4 rfl rfl
theorem wi_java_lang_String : Cond.initialized "java/lang/String" ∈ TB := tb_1 17 rfl rfl
theorem wi_java_lang_StringLatin1 : Cond.initialized "java/lang/StringLatin1" ∈ TB := tb_1 18 rfl rfl
theorem wi_java_lang_StringUTF16 : Cond.initialized "java/lang/StringUTF16" ∈ TB := tb_1 20 rfl rfl
theorem wi_java_lang_System : Cond.initialized "java/lang/System" ∈ TB := tb_1 15 rfl rfl
theorem wi_jdk_internal_util_Preconditions : Cond.initialized "jdk/internal/util/Preconditions" ∈ TB := tb_1 19 rfl rfl
def m_X0_init : MD := (prog_2_method_1_code, ⟨"Encores$Fewest", "<init>", "(LEncores$House;LEncores$Law;LEncores$Stage;)V"⟩, 4, none)
theorem km_X0_init : KM m_X0_init 3 := ⟨tb_2 69 rfl rfl, wi_Encores_Fewest, by decide +kernel, by decide +kernel⟩
theorem ki_X0_init : Cond.instanceMethod m_X0_init.2.1 ∈ TB := tb_2 68 rfl rfl
def m_X0_prepare : MD := (prog_2_method_2_code, ⟨"Encores$Fewest", "prepare", "(II)V"⟩, 6, none)
theorem km_X0_prepare : KM m_X0_prepare 2 := ⟨tb_4 160 rfl rfl, wi_Encores_Fewest, by decide +kernel, by decide +kernel⟩
theorem ki_X0_prepare : Cond.instanceMethod m_X0_prepare.2.1 ∈ TB := tb_4 158 rfl rfl
theorem kv_X0_prepare : Cond.selects m_X0_prepare.2.1.cls m_X0_prepare.2.1 m_X0_prepare.2.1 ∈ TB := tb_4 159 rfl rfl
def m_X0_prepareClaps : MD := (prog_2_method_3_code, ⟨"Encores$Fewest", "prepareClaps", "(II)I"⟩, 9, (some .int))
theorem km_X0_prepareClaps : KM m_X0_prepareClaps 2 := ⟨tb_4 170 rfl rfl, wi_Encores_Fewest, by decide +kernel, by decide +kernel⟩
theorem ki_X0_prepareClaps : Cond.instanceMethod m_X0_prepareClaps.2.1 ∈ TB := tb_4 169 rfl rfl
theorem kv_X0_prepareClaps : Cond.selects m_X0_prepareClaps.2.1.cls m_X0_prepareClaps.2.1 m_X0_prepareClaps.2.1 ∈ TB := tp_3 (q := (⟨"Encores$Fewest", "prepareClaps", "(II)I"⟩, 7)) 4 rfl rfl
def m_X0_away : MD := (prog_2_method_4_code, ⟨"Encores$Fewest", "away", "(I)I"⟩, 6, (some .int))
theorem km_X0_away : KM m_X0_away 1 := ⟨tb_4 181 rfl rfl, wi_Encores_Fewest, by decide +kernel, by decide +kernel⟩
theorem ki_X0_away : Cond.instanceMethod m_X0_away.2.1 ∈ TB := tb_4 179 rfl rfl
theorem kv_X0_away : Cond.selects m_X0_away.2.1.cls m_X0_away.2.1 m_X0_away.2.1 ∈ TB := tb_4 180 rfl rfl
def m_X0_isDone : MD := (prog_2_method_5_code, ⟨"Encores$Fewest", "isDone", "(II)Z"⟩, 5, (some .boolean))
theorem km_X0_isDone : KM m_X0_isDone 2 := ⟨tb_4 185 rfl rfl, wi_Encores_Fewest, by decide +kernel, by decide +kernel⟩
theorem ki_X0_isDone : Cond.instanceMethod m_X0_isDone.2.1 ∈ TB := tb_4 184 rfl rfl
theorem kv_X0_isDone : Cond.selects m_X0_isDone.2.1.cls m_X0_isDone.2.1 m_X0_isDone.2.1 ∈ TB := tp_3 (q := (⟨"Encores$Fewest", "isDone", "(II)Z"⟩, 7)) 5 rfl rfl
def m_X0_clappingAt : MD := (prog_2_method_6_code, ⟨"Encores$Fewest", "clappingAt", "(II)I"⟩, 9, (some .int))
theorem km_X0_clappingAt : KM m_X0_clappingAt 2 := ⟨tb_4 189 rfl rfl, wi_Encores_Fewest, by decide +kernel, by decide +kernel⟩
theorem ki_X0_clappingAt : Cond.instanceMethod m_X0_clappingAt.2.1 ∈ TB := tb_4 188 rfl rfl
theorem kv_X0_clappingAt : Cond.selects m_X0_clappingAt.2.1.cls m_X0_clappingAt.2.1 m_X0_clappingAt.2.1 ∈ TB := tp_3 (q := (⟨"Encores$Fewest", "clappingAt", "(II)I"⟩, 7)) 6 rfl rfl
def m_X1_init : MD := (prog_3_method_1_code, ⟨"Encores$House", "<init>", "()V"⟩, 2, none)
theorem km_X1_init : KM m_X1_init 0 := ⟨tb_1 33 rfl rfl, wi_Encores_House, by decide +kernel, by decide +kernel⟩
theorem ki_X1_init : Cond.instanceMethod m_X1_init.2.1 ∈ TB := tb_1 32 rfl rfl
def m_X1_copy : MD := (prog_3_method_2_code, ⟨"Encores$House", "copy", "(LEncores$House;)V"⟩, 2, none)
theorem km_X1_copy : KM m_X1_copy 1 := ⟨tb_5 145 rfl rfl, wi_Encores_House, by decide +kernel, by decide +kernel⟩
theorem ki_X1_copy : Cond.instanceMethod m_X1_copy.2.1 ∈ TB := tb_5 143 rfl rfl
theorem kv_X1_copy : Cond.selects m_X1_copy.2.1.cls m_X1_copy.2.1 m_X1_copy.2.1 ∈ TB := tb_5 144 rfl rfl
def m_X1_hour : MD := (prog_3_method_3_code, ⟨"Encores$House", "hour", "(I)I"⟩, 2, (some .int))
theorem km_X1_hour : KM m_X1_hour 1 := ⟨tb_2 162 rfl rfl, wi_Encores_House, by decide +kernel, by decide +kernel⟩
theorem ki_X1_hour : Cond.instanceMethod m_X1_hour.2.1 ∈ TB := tb_2 160 rfl rfl
theorem kv_X1_hour : Cond.selects m_X1_hour.2.1.cls m_X1_hour.2.1 m_X1_hour.2.1 ∈ TB := tb_2 161 rfl rfl
def m_X1_setHour : MD := (prog_3_method_4_code, ⟨"Encores$House", "setHour", "(II)V"⟩, 3, none)
theorem km_X1_setHour : KM m_X1_setHour 2 := ⟨tb_2 170 rfl rfl, wi_Encores_House, by decide +kernel, by decide +kernel⟩
theorem ki_X1_setHour : Cond.instanceMethod m_X1_setHour.2.1 ∈ TB := tb_2 168 rfl rfl
theorem kv_X1_setHour : Cond.selects m_X1_setHour.2.1.cls m_X1_setHour.2.1 m_X1_setHour.2.1 ∈ TB := tb_2 169 rfl rfl
def m_X1_note : MD := (prog_3_method_5_code, ⟨"Encores$House", "note", "(III)V"⟩, 4, none)
theorem km_X1_note : KM m_X1_note 3 := ⟨tb_3 83 rfl rfl, wi_Encores_House, by decide +kernel, by decide +kernel⟩
theorem ki_X1_note : Cond.instanceMethod m_X1_note.2.1 ∈ TB := tb_3 81 rfl rfl
theorem kv_X1_note : Cond.selects m_X1_note.2.1.cls m_X1_note.2.1 m_X1_note.2.1 ∈ TB := tb_3 82 rfl rfl
def m_X1_those : MD := (prog_3_method_6_code, ⟨"Encores$House", "those", "(I)I"⟩, 4, (some .int))
theorem km_X1_those : KM m_X1_those 1 := ⟨tb_3 50 rfl rfl, wi_Encores_House, by decide +kernel, by decide +kernel⟩
theorem ki_X1_those : Cond.instanceMethod m_X1_those.2.1 ∈ TB := tb_3 48 rfl rfl
theorem kv_X1_those : Cond.selects m_X1_those.2.1.cls m_X1_those.2.1 m_X1_those.2.1 ∈ TB := tb_3 49 rfl rfl
def m_X1_takeText : MD := (prog_3_method_7_code, ⟨"Encores$House", "takeText", "(ILEncores$Table;LEncores$Table;)V"⟩, 4, none)
theorem km_X1_takeText : KM m_X1_takeText 3 := ⟨tb_4 87 rfl rfl, wi_Encores_House, by decide +kernel, by decide +kernel⟩
theorem ki_X1_takeText : Cond.instanceMethod m_X1_takeText.2.1 ∈ TB := tb_4 85 rfl rfl
theorem kv_X1_takeText : Cond.selects m_X1_takeText.2.1.cls m_X1_takeText.2.1 m_X1_takeText.2.1 ∈ TB := tb_4 86 rfl rfl
def m_X1_countHands : MD := (prog_3_method_8_code, ⟨"Encores$House", "countHands", "()V"⟩, 2, none)
theorem km_X1_countHands : KM m_X1_countHands 0 := ⟨tb_4 92 rfl rfl, wi_Encores_House, by decide +kernel, by decide +kernel⟩
theorem ki_X1_countHands : Cond.instanceMethod m_X1_countHands.2.1 ∈ TB := tb_4 91 rfl rfl
theorem kv_X1_countHands : Cond.selects m_X1_countHands.2.1.cls m_X1_countHands.2.1 m_X1_countHands.2.1 ∈ TB := tp_3 (q := (⟨"Encores$House", "countHands", "()V"⟩, 11)) 0 rfl rfl
def m_X1_seat : MD := (prog_3_method_9_code, ⟨"Encores$House", "seat", "()V"⟩, 4, none)
theorem km_X1_seat : KM m_X1_seat 0 := ⟨tb_4 96 rfl rfl, wi_Encores_House, by decide +kernel, by decide +kernel⟩
theorem ki_X1_seat : Cond.instanceMethod m_X1_seat.2.1 ∈ TB := tb_4 95 rfl rfl
theorem kv_X1_seat : Cond.selects m_X1_seat.2.1.cls m_X1_seat.2.1 m_X1_seat.2.1 ∈ TB := tp_3 (q := (⟨"Encores$House", "seat", "()V"⟩, 11)) 1 rfl rfl
def m_X1_handsDue : MD := (prog_3_method_10_code, ⟨"Encores$House", "handsDue", "()I"⟩, 5, (some .int))
theorem km_X1_handsDue : KM m_X1_handsDue 0 := ⟨tb_3 87 rfl rfl, wi_Encores_House, by decide +kernel, by decide +kernel⟩
theorem ki_X1_handsDue : Cond.instanceMethod m_X1_handsDue.2.1 ∈ TB := tb_3 85 rfl rfl
theorem kv_X1_handsDue : Cond.selects m_X1_handsDue.2.1.cls m_X1_handsDue.2.1 m_X1_handsDue.2.1 ∈ TB := tb_3 86 rfl rfl
def m_X1_mostAgains : MD := (prog_3_method_11_code, ⟨"Encores$House", "mostAgains", "()I"⟩, 1, (some .int))
theorem km_X1_mostAgains : KM m_X1_mostAgains 0 := ⟨tb_3 95 rfl rfl, wi_Encores_House, by decide +kernel, by decide +kernel⟩
theorem ki_X1_mostAgains : Cond.instanceMethod m_X1_mostAgains.2.1 ∈ TB := tb_3 93 rfl rfl
theorem kv_X1_mostAgains : Cond.selects m_X1_mostAgains.2.1.cls m_X1_mostAgains.2.1 m_X1_mostAgains.2.1 ∈ TB := tb_3 94 rfl rfl
def m_X1_endMinute : MD := (prog_3_method_12_code, ⟨"Encores$House", "endMinute", "()I"⟩, 1, (some .int))
theorem km_X1_endMinute : KM m_X1_endMinute 0 := ⟨tb_3 103 rfl rfl, wi_Encores_House, by decide +kernel, by decide +kernel⟩
theorem ki_X1_endMinute : Cond.instanceMethod m_X1_endMinute.2.1 ∈ TB := tb_3 101 rfl rfl
theorem kv_X1_endMinute : Cond.selects m_X1_endMinute.2.1.cls m_X1_endMinute.2.1 m_X1_endMinute.2.1 ∈ TB := tb_3 102 rfl rfl
def m_X1_lastOf : MD := (prog_3_method_13_code, ⟨"Encores$House", "lastOf", "(II)I"⟩, 5, (some .int))
theorem km_X1_lastOf : KM m_X1_lastOf 2 := ⟨tb_3 99 rfl rfl, wi_Encores_House, by decide +kernel, by decide +kernel⟩
theorem ki_X1_lastOf : Cond.instanceMethod m_X1_lastOf.2.1 ∈ TB := tb_3 98 rfl rfl
theorem kv_X1_lastOf : Cond.selects m_X1_lastOf.2.1.cls m_X1_lastOf.2.1 m_X1_lastOf.2.1 ∈ TB := tp_1 (q := (⟨"Encores$House", "lastOf", "(II)I"⟩, 11)) 10 rfl rfl
def m_X1_mayGoOn : MD := (prog_3_method_14_code, ⟨"Encores$House", "mayGoOn", "()Z"⟩, 1, (some .boolean))
theorem km_X1_mayGoOn : KM m_X1_mayGoOn 0 := ⟨tb_3 91 rfl rfl, wi_Encores_House, by decide +kernel, by decide +kernel⟩
theorem ki_X1_mayGoOn : Cond.instanceMethod m_X1_mayGoOn.2.1 ∈ TB := tb_3 89 rfl rfl
theorem kv_X1_mayGoOn : Cond.selects m_X1_mayGoOn.2.1.cls m_X1_mayGoOn.2.1 m_X1_mayGoOn.2.1 ∈ TB := tb_3 90 rfl rfl
def m_X2_init : MD := (prog_4_method_1_code, ⟨"Encores$Law", "<init>", "(LEncores$House;)V"⟩, 2, none)
theorem km_X2_init : KM m_X2_init 1 := ⟨tb_2 22 rfl rfl, wi_Encores_Law, by decide +kernel, by decide +kernel⟩
theorem ki_X2_init : Cond.instanceMethod m_X2_init.2.1 ∈ TB := tb_2 21 rfl rfl
def m_X2_clap : MD := (prog_4_method_2_code, ⟨"Encores$Law", "clap", "(III)I"⟩, 4, (some .int))
theorem km_X2_clap : KM m_X2_clap 3 := ⟨tb_3 63 rfl rfl, wi_Encores_Law, by decide +kernel, by decide +kernel⟩
theorem ki_X2_clap : Cond.instanceMethod m_X2_clap.2.1 ∈ TB := tb_3 61 rfl rfl
theorem kv_X2_clap : Cond.selects m_X2_clap.2.1.cls m_X2_clap.2.1 m_X2_clap.2.1 ∈ TB := tb_3 62 rfl rfl
def m_X2_clapIfPaid : MD := (prog_4_method_3_code, ⟨"Encores$Law", "clapIfPaid", "(III)I"⟩, 4, (some .int))
theorem km_X2_clapIfPaid : KM m_X2_clapIfPaid 3 := ⟨tb_4 225 rfl rfl, wi_Encores_Law, by decide +kernel, by decide +kernel⟩
theorem ki_X2_clapIfPaid : Cond.instanceMethod m_X2_clapIfPaid.2.1 ∈ TB := tb_4 223 rfl rfl
theorem kv_X2_clapIfPaid : Cond.selects m_X2_clapIfPaid.2.1.cls m_X2_clapIfPaid.2.1 m_X2_clapIfPaid.2.1 ∈ TB := tb_4 224 rfl rfl
def m_X2_ofDeed : MD := (prog_4_method_4_code, ⟨"Encores$Law", "ofDeed", "(II)I"⟩, 3, (some .int))
theorem km_X2_ofDeed : KM m_X2_ofDeed 2 := ⟨tb_2 239 rfl rfl, wi_Encores_Law, by decide +kernel, by decide +kernel⟩
theorem ki_X2_ofDeed : Cond.instanceMethod m_X2_ofDeed.2.1 ∈ TB := tb_2 237 rfl rfl
theorem kv_X2_ofDeed : Cond.selects m_X2_ofDeed.2.1.cls m_X2_ofDeed.2.1 m_X2_ofDeed.2.1 ∈ TB := tb_2 238 rfl rfl
def m_X2_askOf : MD := (prog_4_method_5_code, ⟨"Encores$Law", "askOf", "(III)V"⟩, 5, none)
theorem km_X2_askOf : KM m_X2_askOf 3 := ⟨tb_3 3 rfl rfl, wi_Encores_Law, by decide +kernel, by decide +kernel⟩
theorem ki_X2_askOf : Cond.instanceMethod m_X2_askOf.2.1 ∈ TB := tb_3 2 rfl rfl
theorem kv_X2_askOf : Cond.selects m_X2_askOf.2.1.cls m_X2_askOf.2.1 m_X2_askOf.2.1 ∈ TB := tp_1 (q := (⟨"Encores$Law", "askOf", "(III)V"⟩, 3)) 1 rfl rfl
def m_X2_ask : MD := (prog_4_method_6_code, ⟨"Encores$Law", "ask", "(II)V"⟩, 3, none)
theorem km_X2_ask : KM m_X2_ask 2 := ⟨tb_3 8 rfl rfl, wi_Encores_Law, by decide +kernel, by decide +kernel⟩
theorem ki_X2_ask : Cond.instanceMethod m_X2_ask.2.1 ∈ TB := tb_3 7 rfl rfl
theorem kv_X2_ask : Cond.selects m_X2_ask.2.1.cls m_X2_ask.2.1 m_X2_ask.2.1 ∈ TB := tp_1 (q := (⟨"Encores$Law", "ask", "(II)V"⟩, 3)) 2 rfl rfl
def m_X2_answer : MD := (prog_4_method_7_code, ⟨"Encores$Law", "answer", "(I)I"⟩, 2, (some .int))
theorem km_X2_answer : KM m_X2_answer 1 := ⟨tb_3 21 rfl rfl, wi_Encores_Law, by decide +kernel, by decide +kernel⟩
theorem ki_X2_answer : Cond.instanceMethod m_X2_answer.2.1 ∈ TB := tb_3 20 rfl rfl
theorem kv_X2_answer : Cond.selects m_X2_answer.2.1.cls m_X2_answer.2.1 m_X2_answer.2.1 ∈ TB := tp_1 (q := (⟨"Encores$Law", "answer", "(I)I"⟩, 3)) 5 rfl rfl
def m_X2_tell : MD := (prog_4_method_8_code, ⟨"Encores$Law", "tell", "(I)I"⟩, 6, (some .int))
theorem km_X2_tell : KM m_X2_tell 1 := ⟨tb_3 13 rfl rfl, wi_Encores_Law, by decide +kernel, by decide +kernel⟩
theorem ki_X2_tell : Cond.instanceMethod m_X2_tell.2.1 ∈ TB := tb_3 12 rfl rfl
theorem kv_X2_tell : Cond.selects m_X2_tell.2.1.cls m_X2_tell.2.1 m_X2_tell.2.1 ∈ TB := tp_1 (q := (⟨"Encores$Law", "tell", "(I)I"⟩, 3)) 3 rfl rfl
def m_X2_held : MD := (prog_4_method_9_code, ⟨"Encores$Law", "held", "(II)I"⟩, 2, (some .int))
theorem km_X2_held : KM m_X2_held 2 := ⟨tb_3 27 rfl rfl, wi_Encores_Law, by decide +kernel, by decide +kernel⟩
theorem ks_X2_held : Cond.static m_X2_held.2.1 ∈ TB := tb_3 26 rfl rfl
def m_X2_run : MD := (prog_4_method_10_code, ⟨"Encores$Law", "run", "(II)I"⟩, 7, (some .int))
theorem km_X2_run : KM m_X2_run 2 := ⟨tb_3 17 rfl rfl, wi_Encores_Law, by decide +kernel, by decide +kernel⟩
theorem ki_X2_run : Cond.instanceMethod m_X2_run.2.1 ∈ TB := tb_3 16 rfl rfl
theorem kv_X2_run : Cond.selects m_X2_run.2.1.cls m_X2_run.2.1 m_X2_run.2.1 ∈ TB := tp_1 (q := (⟨"Encores$Law", "run", "(II)I"⟩, 3)) 4 rfl rfl
def m_X2_joined : MD := (prog_4_method_11_code, ⟨"Encores$Law", "joined", "(III)I"⟩, 3, (some .int))
theorem km_X2_joined : KM m_X2_joined 3 := ⟨tb_3 24 rfl rfl, wi_Encores_Law, by decide +kernel, by decide +kernel⟩
theorem ks_X2_joined : Cond.static m_X2_joined.2.1 ∈ TB := tb_3 23 rfl rfl
def m_X3_init : MD := (prog_5_method_1_code, ⟨"Encores$Moment", "<init>", "()V"⟩, 1, none)
theorem km_X3_init : KM m_X3_init 0 := ⟨tb_1 145 rfl rfl, wi_Encores_Moment, by decide +kernel, by decide +kernel⟩
theorem ki_X3_init : Cond.instanceMethod m_X3_init.2.1 ∈ TB := tb_1 144 rfl rfl
def m_X3_keep : MD := (prog_5_method_2_code, ⟨"Encores$Moment", "keep", "(LEncores$House;)V"⟩, 2, none)
theorem km_X3_keep : KM m_X3_keep 1 := ⟨tb_2 215 rfl rfl, wi_Encores_Moment, by decide +kernel, by decide +kernel⟩
theorem ki_X3_keep : Cond.instanceMethod m_X3_keep.2.1 ∈ TB := tb_2 213 rfl rfl
theorem kv_X3_keep : Cond.selects m_X3_keep.2.1.cls m_X3_keep.2.1 m_X3_keep.2.1 ∈ TB := tb_2 214 rfl rfl
def m_X3_back : MD := (prog_5_method_3_code, ⟨"Encores$Moment", "back", "(LEncores$House;)V"⟩, 2, none)
theorem km_X3_back : KM m_X3_back 1 := ⟨tb_4 137 rfl rfl, wi_Encores_Moment, by decide +kernel, by decide +kernel⟩
theorem ki_X3_back : Cond.instanceMethod m_X3_back.2.1 ∈ TB := tb_4 135 rfl rfl
theorem kv_X3_back : Cond.selects m_X3_back.2.1.cls m_X3_back.2.1 m_X3_back.2.1 ∈ TB := tb_4 136 rfl rfl
def m_X4_init : MD := (prog_6_method_1_code, ⟨"Encores$Past", "<init>", "()V"⟩, 2, none)
theorem km_X4_init : KM m_X4_init 0 := ⟨tb_1 138 rfl rfl, wi_Encores_Past, by decide +kernel, by decide +kernel⟩
theorem ki_X4_init : Cond.instanceMethod m_X4_init.2.1 ∈ TB := tb_1 137 rfl rfl
def m_X4_keep : MD := (prog_6_method_2_code, ⟨"Encores$Past", "keep", "(LEncores$House;)V"⟩, 3, none)
theorem km_X4_keep : KM m_X4_keep 1 := ⟨tb_2 207 rfl rfl, wi_Encores_Past, by decide +kernel, by decide +kernel⟩
theorem ki_X4_keep : Cond.instanceMethod m_X4_keep.2.1 ∈ TB := tb_2 205 rfl rfl
theorem kv_X4_keep : Cond.selects m_X4_keep.2.1.cls m_X4_keep.2.1 m_X4_keep.2.1 ∈ TB := tb_2 206 rfl rfl
def m_X4_back : MD := (prog_6_method_3_code, ⟨"Encores$Past", "back", "(LEncores$House;)Z"⟩, 3, (some .boolean))
theorem km_X4_back : KM m_X4_back 1 := ⟨tb_5 136 rfl rfl, wi_Encores_Past, by decide +kernel, by decide +kernel⟩
theorem ki_X4_back : Cond.instanceMethod m_X4_back.2.1 ∈ TB := tb_5 134 rfl rfl
theorem kv_X4_back : Cond.selects m_X4_back.2.1.cls m_X4_back.2.1 m_X4_back.2.1 ∈ TB := tb_5 135 rfl rfl
def m_X4_forget : MD := (prog_6_method_4_code, ⟨"Encores$Past", "forget", "()V"⟩, 1, none)
theorem km_X4_forget : KM m_X4_forget 0 := ⟨tb_2 174 rfl rfl, wi_Encores_Past, by decide +kernel, by decide +kernel⟩
theorem ki_X4_forget : Cond.instanceMethod m_X4_forget.2.1 ∈ TB := tb_2 172 rfl rfl
theorem kv_X4_forget : Cond.selects m_X4_forget.2.1.cls m_X4_forget.2.1 m_X4_forget.2.1 ∈ TB := tb_2 173 rfl rfl
def m_X4_momentAt : MD := (prog_6_method_5_code, ⟨"Encores$Past", "momentAt", "(I)LEncores$Moment;"⟩, 2, (some (.object "Encores$Moment")))
theorem km_X4_momentAt : KM m_X4_momentAt 1 := ⟨tb_2 211 rfl rfl, wi_Encores_Past, by decide +kernel, by decide +kernel⟩
theorem ki_X4_momentAt : Cond.instanceMethod m_X4_momentAt.2.1 ∈ TB := tb_2 210 rfl rfl
theorem kv_X4_momentAt : Cond.selects m_X4_momentAt.2.1.cls m_X4_momentAt.2.1 m_X4_momentAt.2.1 ∈ TB := tp_1 (q := (⟨"Encores$Past", "momentAt", "(I)LEncores$Moment;"⟩, 3)) 0 rfl rfl
def m_X5_init : MD := (prog_7_method_1_code, ⟨"Encores$Programme", "<init>", "(LEncores$House;)V"⟩, 2, none)
theorem km_X5_init : KM m_X5_init 1 := ⟨tb_2 109 rfl rfl, wi_Encores_Programme, by decide +kernel, by decide +kernel⟩
theorem ki_X5_init : Cond.instanceMethod m_X5_init.2.1 ∈ TB := tb_2 108 rfl rfl
def m_X5_sumOf : MD := (prog_7_method_2_code, ⟨"Encores$Programme", "sumOf", "(II)I"⟩, 5, (some .int))
theorem km_X5_sumOf : KM m_X5_sumOf 2 := ⟨tb_4 237 rfl rfl, wi_Encores_Programme, by decide +kernel, by decide +kernel⟩
theorem ki_X5_sumOf : Cond.instanceMethod m_X5_sumOf.2.1 ∈ TB := tb_4 235 rfl rfl
theorem kv_X5_sumOf : Cond.selects m_X5_sumOf.2.1.cls m_X5_sumOf.2.1 m_X5_sumOf.2.1 ∈ TB := tb_4 236 rfl rfl
def m_X5_fullest : MD := (prog_7_method_3_code, ⟨"Encores$Programme", "fullest", "(I)I"⟩, 4, (some .int))
theorem km_X5_fullest : KM m_X5_fullest 1 := ⟨tb_4 233 rfl rfl, wi_Encores_Programme, by decide +kernel, by decide +kernel⟩
theorem ki_X5_fullest : Cond.instanceMethod m_X5_fullest.2.1 ∈ TB := tb_4 231 rfl rfl
theorem kv_X5_fullest : Cond.selects m_X5_fullest.2.1.cls m_X5_fullest.2.1 m_X5_fullest.2.1 ∈ TB := tb_4 232 rfl rfl
def m_X5_firstOf : MD := (prog_7_method_4_code, ⟨"Encores$Programme", "firstOf", "(I)I"⟩, 4, (some .int))
theorem km_X5_firstOf : KM m_X5_firstOf 1 := ⟨tb_5 12 rfl rfl, wi_Encores_Programme, by decide +kernel, by decide +kernel⟩
theorem ki_X5_firstOf : Cond.instanceMethod m_X5_firstOf.2.1 ∈ TB := tb_5 10 rfl rfl
theorem kv_X5_firstOf : Cond.selects m_X5_firstOf.2.1.cls m_X5_firstOf.2.1 m_X5_firstOf.2.1 ∈ TB := tb_5 11 rfl rfl
def m_X5_isWorthMore : MD := (prog_7_method_5_code, ⟨"Encores$Programme", "isWorthMore", "(II)Z"⟩, 3, (some .boolean))
theorem km_X5_isWorthMore : KM m_X5_isWorthMore 2 := ⟨tb_5 16 rfl rfl, wi_Encores_Programme, by decide +kernel, by decide +kernel⟩
theorem ki_X5_isWorthMore : Cond.instanceMethod m_X5_isWorthMore.2.1 ∈ TB := tb_5 15 rfl rfl
theorem kv_X5_isWorthMore : Cond.selects m_X5_isWorthMore.2.1.cls m_X5_isWorthMore.2.1 m_X5_isWorthMore.2.1 ∈ TB := tp_3 (q := (⟨"Encores$Programme", "isWorthMore", "(II)Z"⟩, 1)) 7 rfl rfl
def m_X5_leastSum : MD := (prog_7_method_6_code, ⟨"Encores$Programme", "leastSum", "(I)I"⟩, 7, (some .int))
theorem km_X5_leastSum : KM m_X5_leastSum 1 := ⟨tb_5 8 rfl rfl, wi_Encores_Programme, by decide +kernel, by decide +kernel⟩
theorem ki_X5_leastSum : Cond.instanceMethod m_X5_leastSum.2.1 ∈ TB := tb_5 6 rfl rfl
theorem kv_X5_leastSum : Cond.selects m_X5_leastSum.2.1.cls m_X5_leastSum.2.1 m_X5_leastSum.2.1 ∈ TB := tb_5 7 rfl rfl
def m_X5_winningHeap : MD := (prog_7_method_7_code, ⟨"Encores$Programme", "winningHeap", "()I"⟩, 2, (some .int))
theorem km_X5_winningHeap : KM m_X5_winningHeap 0 := ⟨tb_5 29 rfl rfl, wi_Encores_Programme, by decide +kernel, by decide +kernel⟩
theorem ki_X5_winningHeap : Cond.instanceMethod m_X5_winningHeap.2.1 ∈ TB := tb_5 27 rfl rfl
theorem kv_X5_winningHeap : Cond.selects m_X5_winningHeap.2.1.cls m_X5_winningHeap.2.1 m_X5_winningHeap.2.1 ∈ TB := tb_5 28 rfl rfl
def m_X5_winningTake : MD := (prog_7_method_8_code, ⟨"Encores$Programme", "winningTake", "(I)I"⟩, 5, (some .int))
theorem km_X5_winningTake : KM m_X5_winningTake 1 := ⟨tb_5 33 rfl rfl, wi_Encores_Programme, by decide +kernel, by decide +kernel⟩
theorem ki_X5_winningTake : Cond.instanceMethod m_X5_winningTake.2.1 ∈ TB := tb_5 31 rfl rfl
theorem kv_X5_winningTake : Cond.selects m_X5_winningTake.2.1.cls m_X5_winningTake.2.1 m_X5_winningTake.2.1 ∈ TB := tb_5 32 rfl rfl
def m_X5_grundy : MD := (prog_7_method_9_code, ⟨"Encores$Programme", "grundy", "(I)I"⟩, 2, (some .int))
theorem km_X5_grundy : KM m_X5_grundy 1 := ⟨tb_5 36 rfl rfl, wi_Encores_Programme, by decide +kernel, by decide +kernel⟩
theorem ks_X5_grundy : Cond.static m_X5_grundy.2.1 ∈ TB := tb_5 35 rfl rfl
def m_X6_init : MD := (prog_8_method_1_code, ⟨"Encores$Reader", "<init>", "(LEncores$Tape;)V"⟩, 2, none)
theorem km_X6_init : KM m_X6_init 1 := ⟨tb_1 213 rfl rfl, wi_Encores_Reader, by decide +kernel, by decide +kernel⟩
theorem ki_X6_init : Cond.instanceMethod m_X6_init.2.1 ∈ TB := tb_1 212 rfl rfl
def m_X6_read : MD := (prog_8_method_2_code, ⟨"Encores$Reader", "read", "(III)V"⟩, 5, none)
theorem km_X6_read : KM m_X6_read 3 := ⟨tb_3 156 rfl rfl, wi_Encores_Reader, by decide +kernel, by decide +kernel⟩
theorem ki_X6_read : Cond.instanceMethod m_X6_read.2.1 ∈ TB := tb_3 154 rfl rfl
theorem kv_X6_read : Cond.selects m_X6_read.2.1.cls m_X6_read.2.1 m_X6_read.2.1 ∈ TB := tb_3 155 rfl rfl
def m_X6_readLine : MD := (prog_8_method_3_code, ⟨"Encores$Reader", "readLine", "(I)V"⟩, 3, none)
theorem km_X6_readLine : KM m_X6_readLine 1 := ⟨tb_4 13 rfl rfl, wi_Encores_Reader, by decide +kernel, by decide +kernel⟩
theorem ki_X6_readLine : Cond.instanceMethod m_X6_readLine.2.1 ∈ TB := tb_4 12 rfl rfl
theorem kv_X6_readLine : Cond.selects m_X6_readLine.2.1.cls m_X6_readLine.2.1 m_X6_readLine.2.1 ∈ TB := tp_2 (q := (⟨"Encores$Reader", "readLine", "(I)V"⟩, 12)) 1 rfl rfl
def m_X6_begins : MD := (prog_8_method_4_code, ⟨"Encores$Reader", "begins", "(II)Z"⟩, 2, (some .boolean))
theorem km_X6_begins : KM m_X6_begins 2 := ⟨tb_4 16 rfl rfl, wi_Encores_Reader, by decide +kernel, by decide +kernel⟩
theorem ks_X6_begins : Cond.static m_X6_begins.2.1 ∈ TB := tb_4 15 rfl rfl
def m_X6_readStatute : MD := (prog_8_method_5_code, ⟨"Encores$Reader", "readStatute", "(I)V"⟩, 2, none)
theorem km_X6_readStatute : KM m_X6_readStatute 1 := ⟨tb_4 75 rfl rfl, wi_Encores_Reader, by decide +kernel, by decide +kernel⟩
theorem ki_X6_readStatute : Cond.instanceMethod m_X6_readStatute.2.1 ∈ TB := tb_4 74 rfl rfl
theorem kv_X6_readStatute : Cond.selects m_X6_readStatute.2.1.cls m_X6_readStatute.2.1 m_X6_readStatute.2.1 ∈ TB := tp_2 (q := (⟨"Encores$Reader", "readStatute", "(I)V"⟩, 12)) 13 rfl rfl
def m_X6_readWord : MD := (prog_8_method_6_code, ⟨"Encores$Reader", "readWord", "(I)V"⟩, 2, none)
theorem km_X6_readWord : KM m_X6_readWord 1 := ⟨tb_4 83 rfl rfl, wi_Encores_Reader, by decide +kernel, by decide +kernel⟩
theorem ki_X6_readWord : Cond.instanceMethod m_X6_readWord.2.1 ∈ TB := tb_4 82 rfl rfl
theorem kv_X6_readWord : Cond.selects m_X6_readWord.2.1.cls m_X6_readWord.2.1 m_X6_readWord.2.1 ∈ TB := tp_2 (q := (⟨"Encores$Reader", "readWord", "(I)V"⟩, 12)) 15 rfl rfl
def m_X6_readNumber : MD := (prog_8_method_7_code, ⟨"Encores$Reader", "readNumber", "(III)V"⟩, 5, none)
theorem km_X6_readNumber : KM m_X6_readNumber 3 := ⟨tb_4 79 rfl rfl, wi_Encores_Reader, by decide +kernel, by decide +kernel⟩
theorem ki_X6_readNumber : Cond.instanceMethod m_X6_readNumber.2.1 ∈ TB := tb_4 78 rfl rfl
theorem kv_X6_readNumber : Cond.selects m_X6_readNumber.2.1.cls m_X6_readNumber.2.1 m_X6_readNumber.2.1 ∈ TB := tp_2 (q := (⟨"Encores$Reader", "readNumber", "(III)V"⟩, 12)) 14 rfl rfl
def m_X6_blame : MD := (prog_8_method_8_code, ⟨"Encores$Reader", "blame", "(I)V"⟩, 2, none)
theorem km_X6_blame : KM m_X6_blame 1 := ⟨tb_4 20 rfl rfl, wi_Encores_Reader, by decide +kernel, by decide +kernel⟩
theorem ki_X6_blame : Cond.instanceMethod m_X6_blame.2.1 ∈ TB := tb_4 19 rfl rfl
theorem kv_X6_blame : Cond.selects m_X6_blame.2.1.cls m_X6_blame.2.1 m_X6_blame.2.1 ∈ TB := tp_2 (q := (⟨"Encores$Reader", "blame", "(I)V"⟩, 12)) 2 rfl rfl
def m_X6_readLaw : MD := (prog_8_method_9_code, ⟨"Encores$Reader", "readLaw", "()V"⟩, 3, none)
theorem km_X6_readLaw : KM m_X6_readLaw 0 := ⟨tb_4 26 rfl rfl, wi_Encores_Reader, by decide +kernel, by decide +kernel⟩
theorem ki_X6_readLaw : Cond.instanceMethod m_X6_readLaw.2.1 ∈ TB := tb_4 25 rfl rfl
theorem kv_X6_readLaw : Cond.selects m_X6_readLaw.2.1.cls m_X6_readLaw.2.1 m_X6_readLaw.2.1 ∈ TB := tp_2 (q := (⟨"Encores$Reader", "readLaw", "()V"⟩, 12)) 3 rfl rfl
def m_X6_readCondition : MD := (prog_8_method_10_code, ⟨"Encores$Reader", "readCondition", "()I"⟩, 2, (some .int))
theorem km_X6_readCondition : KM m_X6_readCondition 0 := ⟨tb_4 31 rfl rfl, wi_Encores_Reader, by decide +kernel, by decide +kernel⟩
theorem ki_X6_readCondition : Cond.instanceMethod m_X6_readCondition.2.1 ∈ TB := tb_4 30 rfl rfl
theorem kv_X6_readCondition : Cond.selects m_X6_readCondition.2.1.cls m_X6_readCondition.2.1 m_X6_readCondition.2.1 ∈ TB := tp_2 (q := (⟨"Encores$Reader", "readCondition", "()I"⟩, 12)) 4 rfl rfl
def m_X6_readUnit : MD := (prog_8_method_11_code, ⟨"Encores$Reader", "readUnit", "()I"⟩, 1, (some .int))
theorem km_X6_readUnit : KM m_X6_readUnit 0 := ⟨tb_4 39 rfl rfl, wi_Encores_Reader, by decide +kernel, by decide +kernel⟩
theorem ki_X6_readUnit : Cond.instanceMethod m_X6_readUnit.2.1 ∈ TB := tb_4 38 rfl rfl
theorem kv_X6_readUnit : Cond.selects m_X6_readUnit.2.1.cls m_X6_readUnit.2.1 m_X6_readUnit.2.1 ∈ TB := tp_2 (q := (⟨"Encores$Reader", "readUnit", "()I"⟩, 12)) 6 rfl rfl
def m_X6_readDivisor : MD := (prog_8_method_12_code, ⟨"Encores$Reader", "readDivisor", "()I"⟩, 1, (some .int))
theorem km_X6_readDivisor : KM m_X6_readDivisor 0 := ⟨tb_4 43 rfl rfl, wi_Encores_Reader, by decide +kernel, by decide +kernel⟩
theorem ki_X6_readDivisor : Cond.instanceMethod m_X6_readDivisor.2.1 ∈ TB := tb_4 42 rfl rfl
theorem kv_X6_readDivisor : Cond.selects m_X6_readDivisor.2.1.cls m_X6_readDivisor.2.1 m_X6_readDivisor.2.1 ∈ TB := tp_2 (q := (⟨"Encores$Reader", "readDivisor", "()I"⟩, 12)) 7 rfl rfl
def m_X6_readBehindUnit : MD := (prog_8_method_13_code, ⟨"Encores$Reader", "readBehindUnit", "()I"⟩, 2, (some .int))
theorem km_X6_readBehindUnit : KM m_X6_readBehindUnit 0 := ⟨tb_4 47 rfl rfl, wi_Encores_Reader, by decide +kernel, by decide +kernel⟩
theorem ki_X6_readBehindUnit : Cond.instanceMethod m_X6_readBehindUnit.2.1 ∈ TB := tb_4 46 rfl rfl
theorem kv_X6_readBehindUnit : Cond.selects m_X6_readBehindUnit.2.1.cls m_X6_readBehindUnit.2.1 m_X6_readBehindUnit.2.1 ∈ TB := tp_2 (q := (⟨"Encores$Reader", "readBehindUnit", "()I"⟩, 12)) 8 rfl rfl
def m_X6_readBehindCondition : MD := (prog_8_method_14_code, ⟨"Encores$Reader", "readBehindCondition", "()I"⟩, 2, (some .int))
theorem km_X6_readBehindCondition : KM m_X6_readBehindCondition 0 := ⟨tb_4 70 rfl rfl, wi_Encores_Reader, by decide +kernel, by decide +kernel⟩
theorem ki_X6_readBehindCondition : Cond.instanceMethod m_X6_readBehindCondition.2.1 ∈ TB := tb_4 69 rfl rfl
theorem kv_X6_readBehindCondition : Cond.selects m_X6_readBehindCondition.2.1.cls m_X6_readBehindCondition.2.1 m_X6_readBehindCondition.2.1 ∈ TB := tp_2 (q := (⟨"Encores$Reader", "readBehindCondition", "()I"⟩, 12)) 12 rfl rfl
def m_X6_finish : MD := (prog_8_method_15_code, ⟨"Encores$Reader", "finish", "()I"⟩, 1, (some .int))
theorem km_X6_finish : KM m_X6_finish 0 := ⟨tb_4 66 rfl rfl, wi_Encores_Reader, by decide +kernel, by decide +kernel⟩
theorem ki_X6_finish : Cond.instanceMethod m_X6_finish.2.1 ∈ TB := tb_4 65 rfl rfl
theorem kv_X6_finish : Cond.selects m_X6_finish.2.1.cls m_X6_finish.2.1 m_X6_finish.2.1 ∈ TB := tp_2 (q := (⟨"Encores$Reader", "finish", "()I"⟩, 12)) 11 rfl rfl
def m_X6_failed : MD := (prog_8_method_16_code, ⟨"Encores$Reader", "failed", "(I)I"⟩, 2, (some .int))
theorem km_X6_failed : KM m_X6_failed 1 := ⟨tb_4 35 rfl rfl, wi_Encores_Reader, by decide +kernel, by decide +kernel⟩
theorem ki_X6_failed : Cond.instanceMethod m_X6_failed.2.1 ∈ TB := tb_4 34 rfl rfl
theorem kv_X6_failed : Cond.selects m_X6_failed.2.1.cls m_X6_failed.2.1 m_X6_failed.2.1 ∈ TB := tp_2 (q := (⟨"Encores$Reader", "failed", "(I)I"⟩, 12)) 5 rfl rfl
def m_X6_join : MD := (prog_8_method_17_code, ⟨"Encores$Reader", "join", "(I)V"⟩, 2, none)
theorem km_X6_join : KM m_X6_join 1 := ⟨tb_4 54 rfl rfl, wi_Encores_Reader, by decide +kernel, by decide +kernel⟩
theorem ki_X6_join : Cond.instanceMethod m_X6_join.2.1 ∈ TB := tb_4 53 rfl rfl
theorem kv_X6_join : Cond.selects m_X6_join.2.1.cls m_X6_join.2.1 m_X6_join.2.1 ∈ TB := tp_2 (q := (⟨"Encores$Reader", "join", "(I)V"⟩, 12)) 9 rfl rfl
def m_X6_dropDownTo : MD := (prog_8_method_18_code, ⟨"Encores$Reader", "dropDownTo", "(I)V"⟩, 4, none)
theorem km_X6_dropDownTo : KM m_X6_dropDownTo 1 := ⟨tb_4 61 rfl rfl, wi_Encores_Reader, by decide +kernel, by decide +kernel⟩
theorem ki_X6_dropDownTo : Cond.instanceMethod m_X6_dropDownTo.2.1 ∈ TB := tb_4 60 rfl rfl
theorem kv_X6_dropDownTo : Cond.selects m_X6_dropDownTo.2.1.cls m_X6_dropDownTo.2.1 m_X6_dropDownTo.2.1 ∈ TB := tp_2 (q := (⟨"Encores$Reader", "dropDownTo", "(I)V"⟩, 12)) 10 rfl rfl
def m_X6_strength : MD := (prog_8_method_19_code, ⟨"Encores$Reader", "strength", "(I)I"⟩, 1, (some .int))
theorem km_X6_strength : KM m_X6_strength 1 := ⟨tb_4 57 rfl rfl, wi_Encores_Reader, by decide +kernel, by decide +kernel⟩
theorem ks_X6_strength : Cond.static m_X6_strength.2.1 ∈ TB := tb_4 56 rfl rfl
def m_X6_opOf : MD := (prog_8_method_20_code, ⟨"Encores$Reader", "opOf", "(I)I"⟩, 1, (some .int))
theorem km_X6_opOf : KM m_X6_opOf 1 := ⟨tb_4 50 rfl rfl, wi_Encores_Reader, by decide +kernel, by decide +kernel⟩
theorem ks_X6_opOf : Cond.static m_X6_opOf.2.1 ∈ TB := tb_4 49 rfl rfl
def m_X7_init : MD := (prog_9_method_1_code, ⟨"Encores$Seats", "<init>", "(LEncores$House;)V"⟩, 2, none)
theorem km_X7_init : KM m_X7_init 1 := ⟨tb_2 99 rfl rfl, wi_Encores_Seats, by decide +kernel, by decide +kernel⟩
theorem ki_X7_init : Cond.instanceMethod m_X7_init.2.1 ∈ TB := tb_2 98 rfl rfl
def m_X7_all : MD := (prog_9_method_2_code, ⟨"Encores$Seats", "all", "()I"⟩, 1, (some .int))
theorem km_X7_all : KM m_X7_all 0 := ⟨tb_5 89 rfl rfl, wi_Encores_Seats, by decide +kernel, by decide +kernel⟩
theorem ki_X7_all : Cond.instanceMethod m_X7_all.2.1 ∈ TB := tb_5 87 rfl rfl
theorem kv_X7_all : Cond.selects m_X7_all.2.1.cls m_X7_all.2.1 m_X7_all.2.1 ∈ TB := tb_5 88 rfl rfl
def m_X7_reached : MD := (prog_9_method_3_code, ⟨"Encores$Seats", "reached", "(III)I"⟩, 8, (some .int))
theorem km_X7_reached : KM m_X7_reached 3 := ⟨tb_5 93 rfl rfl, wi_Encores_Seats, by decide +kernel, by decide +kernel⟩
theorem ki_X7_reached : Cond.instanceMethod m_X7_reached.2.1 ∈ TB := tb_5 91 rfl rfl
theorem kv_X7_reached : Cond.selects m_X7_reached.2.1.cls m_X7_reached.2.1 m_X7_reached.2.1 ∈ TB := tb_5 92 rfl rfl
def m_X7_fewestBetween : MD := (prog_9_method_4_code, ⟨"Encores$Seats", "fewestBetween", "(II)I"⟩, 9, (some .int))
theorem km_X7_fewestBetween : KM m_X7_fewestBetween 2 := ⟨tb_5 103 rfl rfl, wi_Encores_Seats, by decide +kernel, by decide +kernel⟩
theorem ki_X7_fewestBetween : Cond.instanceMethod m_X7_fewestBetween.2.1 ∈ TB := tb_5 101 rfl rfl
theorem kv_X7_fewestBetween : Cond.selects m_X7_fewestBetween.2.1.cls m_X7_fewestBetween.2.1 m_X7_fewestBetween.2.1 ∈ TB := tb_5 102 rfl rfl
def m_X8_init : MD := (prog_10_method_1_code, ⟨"Encores$Stage", "<init>", "(LEncores$House;LEncores$Law;)V"⟩, 3, none)
theorem km_X8_init : KM m_X8_init 2 := ⟨tb_2 38 rfl rfl, wi_Encores_Stage, by decide +kernel, by decide +kernel⟩
theorem ki_X8_init : Cond.instanceMethod m_X8_init.2.1 ∈ TB := tb_2 37 rfl rfl
def m_X8_spendEvening : MD := (prog_10_method_2_code, ⟨"Encores$Stage", "spendEvening", "()I"⟩, 3, (some .int))
theorem km_X8_spendEvening : KM m_X8_spendEvening 0 := ⟨tb_3 129 rfl rfl, wi_Encores_Stage, by decide +kernel, by decide +kernel⟩
theorem ki_X8_spendEvening : Cond.instanceMethod m_X8_spendEvening.2.1 ∈ TB := tb_3 127 rfl rfl
theorem kv_X8_spendEvening : Cond.selects m_X8_spendEvening.2.1.cls m_X8_spendEvening.2.1 m_X8_spendEvening.2.1 ∈ TB := tb_3 128 rfl rfl
def m_X8_doWithAgains : MD := (prog_10_method_3_code, ⟨"Encores$Stage", "doWithAgains", "(I)I"⟩, 7, (some .int))
theorem km_X8_doWithAgains : KM m_X8_doWithAgains 1 := ⟨tb_2 229 rfl rfl, wi_Encores_Stage, by decide +kernel, by decide +kernel⟩
theorem ki_X8_doWithAgains : Cond.instanceMethod m_X8_doWithAgains.2.1 ∈ TB := tb_2 227 rfl rfl
theorem kv_X8_doWithAgains : Cond.selects m_X8_doWithAgains.2.1.cls m_X8_doWithAgains.2.1 m_X8_doWithAgains.2.1 ∈ TB := tb_2 228 rfl rfl
def m_X8_begin : MD := (prog_10_method_4_code, ⟨"Encores$Stage", "begin", "(I)V"⟩, 3, none)
theorem km_X8_begin : KM m_X8_begin 1 := ⟨tb_2 233 rfl rfl, wi_Encores_Stage, by decide +kernel, by decide +kernel⟩
theorem ki_X8_begin : Cond.instanceMethod m_X8_begin.2.1 ∈ TB := tb_2 231 rfl rfl
theorem kv_X8_begin : Cond.selects m_X8_begin.2.1.cls m_X8_begin.2.1 m_X8_begin.2.1 ∈ TB := tb_2 232 rfl rfl
def m_X8_draw : MD := (prog_10_method_5_code, ⟨"Encores$Stage", "draw", "(I)I"⟩, 3, (some .int))
theorem km_X8_draw : KM m_X8_draw 1 := ⟨tb_3 40 rfl rfl, wi_Encores_Stage, by decide +kernel, by decide +kernel⟩
theorem ki_X8_draw : Cond.instanceMethod m_X8_draw.2.1 ∈ TB := tb_3 39 rfl rfl
theorem kv_X8_draw : Cond.selects m_X8_draw.2.1.cls m_X8_draw.2.1 m_X8_draw.2.1 ∈ TB := tp_1 (q := (⟨"Encores$Stage", "draw", "(I)I"⟩, 7)) 7 rfl rfl
def m_X8_drawEach : MD := (prog_10_method_6_code, ⟨"Encores$Stage", "drawEach", "()V"⟩, 2, none)
theorem km_X8_drawEach : KM m_X8_drawEach 0 := ⟨tb_3 36 rfl rfl, wi_Encores_Stage, by decide +kernel, by decide +kernel⟩
theorem ki_X8_drawEach : Cond.instanceMethod m_X8_drawEach.2.1 ∈ TB := tb_3 35 rfl rfl
theorem kv_X8_drawEach : Cond.selects m_X8_drawEach.2.1.cls m_X8_drawEach.2.1 m_X8_drawEach.2.1 ∈ TB := tp_1 (q := (⟨"Encores$Stage", "drawEach", "()V"⟩, 7)) 6 rfl rfl
def m_X8_applaud : MD := (prog_10_method_7_code, ⟨"Encores$Stage", "applaud", "(I)V"⟩, 9, none)
theorem km_X8_applaud : KM m_X8_applaud 1 := ⟨tb_3 46 rfl rfl, wi_Encores_Stage, by decide +kernel, by decide +kernel⟩
theorem ki_X8_applaud : Cond.instanceMethod m_X8_applaud.2.1 ∈ TB := tb_3 44 rfl rfl
theorem kv_X8_applaud : Cond.selects m_X8_applaud.2.1.cls m_X8_applaud.2.1 m_X8_applaud.2.1 ∈ TB := tb_3 45 rfl rfl
def m_X8_coughs : MD := (prog_10_method_8_code, ⟨"Encores$Stage", "coughs", "()Z"⟩, 1, (some .boolean))
theorem km_X8_coughs : KM m_X8_coughs 0 := ⟨tb_3 67 rfl rfl, wi_Encores_Stage, by decide +kernel, by decide +kernel⟩
theorem ki_X8_coughs : Cond.instanceMethod m_X8_coughs.2.1 ∈ TB := tb_3 66 rfl rfl
theorem kv_X8_coughs : Cond.selects m_X8_coughs.2.1.cls m_X8_coughs.2.1 m_X8_coughs.2.1 ∈ TB := tp_1 (q := (⟨"Encores$Stage", "coughs", "()Z"⟩, 7)) 8 rfl rfl
def m_X8_handsAt : MD := (prog_10_method_9_code, ⟨"Encores$Stage", "handsAt", "(I)I"⟩, 2, (some .int))
theorem km_X8_handsAt : KM m_X8_handsAt 1 := ⟨tb_3 71 rfl rfl, wi_Encores_Stage, by decide +kernel, by decide +kernel⟩
theorem ki_X8_handsAt : Cond.instanceMethod m_X8_handsAt.2.1 ∈ TB := tb_3 69 rfl rfl
theorem kv_X8_handsAt : Cond.selects m_X8_handsAt.2.1.cls m_X8_handsAt.2.1 m_X8_handsAt.2.1 ∈ TB := tb_3 70 rfl rfl
def m_X8_handsOf : MD := (prog_10_method_10_code, ⟨"Encores$Stage", "handsOf", "(I)I"⟩, 4, (some .int))
theorem km_X8_handsOf : KM m_X8_handsOf 1 := ⟨tb_3 75 rfl rfl, wi_Encores_Stage, by decide +kernel, by decide +kernel⟩
theorem ki_X8_handsOf : Cond.instanceMethod m_X8_handsOf.2.1 ∈ TB := tb_3 73 rfl rfl
theorem kv_X8_handsOf : Cond.selects m_X8_handsOf.2.1.cls m_X8_handsOf.2.1 m_X8_handsOf.2.1 ∈ TB := tb_3 74 rfl rfl
def m_X8_noteDone : MD := (prog_10_method_11_code, ⟨"Encores$Stage", "noteDone", "(IZI)V"⟩, 4, none)
theorem km_X8_noteDone : KM m_X8_noteDone 3 := ⟨tb_3 79 rfl rfl, wi_Encores_Stage, by decide +kernel, by decide +kernel⟩
theorem ki_X8_noteDone : Cond.instanceMethod m_X8_noteDone.2.1 ∈ TB := tb_3 78 rfl rfl
theorem kv_X8_noteDone : Cond.selects m_X8_noteDone.2.1.cls m_X8_noteDone.2.1 m_X8_noteDone.2.1 ∈ TB := tp_1 (q := (⟨"Encores$Stage", "noteDone", "(IZI)V"⟩, 7)) 9 rfl rfl
def m_X9_init : MD := (prog_11_method_1_code, ⟨"Encores$Table", "<init>", "(II)V"⟩, 3, none)
theorem km_X9_init : KM m_X9_init 2 := ⟨tb_1 39 rfl rfl, wi_Encores_Table, by decide +kernel, by decide +kernel⟩
theorem ki_X9_init : Cond.instanceMethod m_X9_init.2.1 ∈ TB := tb_1 38 rfl rfl
def m_X9_has : MD := (prog_11_method_2_code, ⟨"Encores$Table", "has", "(I)Z"⟩, 2, (some .boolean))
theorem km_X9_has : KM m_X9_has 1 := ⟨tb_2 198 rfl rfl, wi_Encores_Table, by decide +kernel, by decide +kernel⟩
theorem ki_X9_has : Cond.instanceMethod m_X9_has.2.1 ∈ TB := tb_2 196 rfl rfl
theorem kv_X9_has : Cond.selects m_X9_has.2.1.cls m_X9_has.2.1 m_X9_has.2.1 ∈ TB := tb_2 197 rfl rfl
def m_X9_at : MD := (prog_11_method_3_code, ⟨"Encores$Table", "at", "(II)I"⟩, 4, (some .int))
theorem km_X9_at : KM m_X9_at 2 := ⟨tb_2 166 rfl rfl, wi_Encores_Table, by decide +kernel, by decide +kernel⟩
theorem ki_X9_at : Cond.instanceMethod m_X9_at.2.1 ∈ TB := tb_2 164 rfl rfl
theorem kv_X9_at : Cond.selects m_X9_at.2.1.cls m_X9_at.2.1 m_X9_at.2.1 ∈ TB := tb_2 165 rfl rfl
def m_X9_put : MD := (prog_11_method_4_code, ⟨"Encores$Table", "put", "(III)V"⟩, 5, none)
theorem km_X9_put : KM m_X9_put 3 := ⟨tb_1 75 rfl rfl, wi_Encores_Table, by decide +kernel, by decide +kernel⟩
theorem ki_X9_put : Cond.instanceMethod m_X9_put.2.1 ∈ TB := tb_1 73 rfl rfl
theorem kv_X9_put : Cond.selects m_X9_put.2.1.cls m_X9_put.2.1 m_X9_put.2.1 ∈ TB := tb_1 74 rfl rfl
def m_X9_add : MD := (prog_11_method_5_code, ⟨"Encores$Table", "add", "(IIII)Z"⟩, 7, (some .boolean))
theorem km_X9_add : KM m_X9_add 4 := ⟨tb_1 71 rfl rfl, wi_Encores_Table, by decide +kernel, by decide +kernel⟩
theorem ki_X9_add : Cond.instanceMethod m_X9_add.2.1 ∈ TB := tb_1 69 rfl rfl
theorem kv_X9_add : Cond.selects m_X9_add.2.1.cls m_X9_add.2.1 m_X9_add.2.1 ∈ TB := tb_1 70 rfl rfl
def m_X9_copy : MD := (prog_11_method_6_code, ⟨"Encores$Table", "copy", "(LEncores$Table;)V"⟩, 2, none)
theorem km_X9_copy : KM m_X9_copy 1 := ⟨tb_2 219 rfl rfl, wi_Encores_Table, by decide +kernel, by decide +kernel⟩
theorem ki_X9_copy : Cond.instanceMethod m_X9_copy.2.1 ∈ TB := tb_2 217 rfl rfl
theorem kv_X9_copy : Cond.selects m_X9_copy.2.1.cls m_X9_copy.2.1 m_X9_copy.2.1 ∈ TB := tb_2 218 rfl rfl
def m_X10_init : MD := (prog_12_method_1_code, ⟨"Encores$Tape", "<init>", "()V"⟩, 1, none)
theorem km_X10_init : KM m_X10_init 0 := ⟨tb_1 179 rfl rfl, wi_Encores_Tape, by decide +kernel, by decide +kernel⟩
theorem ki_X10_init : Cond.instanceMethod m_X10_init.2.1 ∈ TB := tb_1 178 rfl rfl
def m_X10_hasRoom : MD := (prog_12_method_2_code, ⟨"Encores$Tape", "hasRoom", "(I)Z"⟩, 2, (some .boolean))
theorem km_X10_hasRoom : KM m_X10_hasRoom 1 := ⟨tb_3 140 rfl rfl, wi_Encores_Tape, by decide +kernel, by decide +kernel⟩
theorem ki_X10_hasRoom : Cond.instanceMethod m_X10_hasRoom.2.1 ∈ TB := tb_3 138 rfl rfl
theorem kv_X10_hasRoom : Cond.selects m_X10_hasRoom.2.1.cls m_X10_hasRoom.2.1 m_X10_hasRoom.2.1 ∈ TB := tb_3 139 rfl rfl
def m_X10_append : MD := (prog_12_method_3_code, ⟨"Encores$Tape", "append", "(I)V"⟩, 3, none)
theorem km_X10_append : KM m_X10_append 1 := ⟨tb_3 144 rfl rfl, wi_Encores_Tape, by decide +kernel, by decide +kernel⟩
theorem ki_X10_append : Cond.instanceMethod m_X10_append.2.1 ∈ TB := tb_3 142 rfl rfl
theorem kv_X10_append : Cond.selects m_X10_append.2.1.cls m_X10_append.2.1 m_X10_append.2.1 ∈ TB := tb_3 143 rfl rfl
def m_X10_scan : MD := (prog_12_method_4_code, ⟨"Encores$Tape", "scan", "()V"⟩, 3, none)
theorem km_X10_scan : KM m_X10_scan 0 := ⟨tb_3 161 rfl rfl, wi_Encores_Tape, by decide +kernel, by decide +kernel⟩
theorem ki_X10_scan : Cond.instanceMethod m_X10_scan.2.1 ∈ TB := tb_3 159 rfl rfl
theorem kv_X10_scan : Cond.selects m_X10_scan.2.1.cls m_X10_scan.2.1 m_X10_scan.2.1 ∈ TB := tb_3 160 rfl rfl
def m_X10_next : MD := (prog_12_method_5_code, ⟨"Encores$Tape", "next", "()V"⟩, 1, none)
theorem km_X10_next : KM m_X10_next 0 := ⟨tb_4 8 rfl rfl, wi_Encores_Tape, by decide +kernel, by decide +kernel⟩
theorem ki_X10_next : Cond.instanceMethod m_X10_next.2.1 ∈ TB := tb_4 6 rfl rfl
theorem kv_X10_next : Cond.selects m_X10_next.2.1.cls m_X10_next.2.1 m_X10_next.2.1 ∈ TB := tb_4 7 rfl rfl
def m_X10_take : MD := (prog_12_method_6_code, ⟨"Encores$Tape", "take", "(I)I"⟩, 4, (some .int))
theorem km_X10_take : KM m_X10_take 1 := ⟨tb_3 172 rfl rfl, wi_Encores_Tape, by decide +kernel, by decide +kernel⟩
theorem ki_X10_take : Cond.instanceMethod m_X10_take.2.1 ∈ TB := tb_3 171 rfl rfl
theorem kv_X10_take : Cond.selects m_X10_take.2.1.cls m_X10_take.2.1 m_X10_take.2.1 ∈ TB := tp_1 (q := (⟨"Encores$Tape", "take", "(I)I"⟩, 7)) 13 rfl rfl
def m_X10_takeNumber : MD := (prog_12_method_7_code, ⟨"Encores$Tape", "takeNumber", "(I)I"⟩, 4, (some .int))
theorem km_X10_takeNumber : KM m_X10_takeNumber 1 := ⟨tb_3 179 rfl rfl, wi_Encores_Tape, by decide +kernel, by decide +kernel⟩
theorem ki_X10_takeNumber : Cond.instanceMethod m_X10_takeNumber.2.1 ∈ TB := tb_3 178 rfl rfl
theorem kv_X10_takeNumber : Cond.selects m_X10_takeNumber.2.1.cls m_X10_takeNumber.2.1 m_X10_takeNumber.2.1 ∈ TB := tp_1 (q := (⟨"Encores$Tape", "takeNumber", "(I)I"⟩, 7)) 14 rfl rfl
def m_X10_wordAt : MD := (prog_12_method_8_code, ⟨"Encores$Tape", "wordAt", "(II)I"⟩, 6, (some .int))
theorem km_X10_wordAt : KM m_X10_wordAt 2 := ⟨tb_3 190 rfl rfl, wi_Encores_Tape, by decide +kernel, by decide +kernel⟩
theorem ki_X10_wordAt : Cond.instanceMethod m_X10_wordAt.2.1 ∈ TB := tb_3 189 rfl rfl
theorem kv_X10_wordAt : Cond.selects m_X10_wordAt.2.1.cls m_X10_wordAt.2.1 m_X10_wordAt.2.1 ∈ TB := tp_1 (q := (⟨"Encores$Tape", "wordAt", "(II)I"⟩, 7)) 15 rfl rfl
def m_X10_isSame : MD := (prog_12_method_9_code, ⟨"Encores$Tape", "isSame", "(III)Z"⟩, 5, (some .boolean))
theorem km_X10_isSame : KM m_X10_isSame 3 := ⟨tb_4 3 rfl rfl, wi_Encores_Tape, by decide +kernel, by decide +kernel⟩
theorem ki_X10_isSame : Cond.instanceMethod m_X10_isSame.2.1 ∈ TB := tb_4 2 rfl rfl
theorem kv_X10_isSame : Cond.selects m_X10_isSame.2.1.cls m_X10_isSame.2.1 m_X10_isSame.2.1 ∈ TB := tp_2 (q := (⟨"Encores$Tape", "isSame", "(III)Z"⟩, 7)) 0 rfl rfl
def m_X10_byteAt : MD := (prog_12_method_10_code, ⟨"Encores$Tape", "byteAt", "(I)I"⟩, 2, (some .int))
theorem km_X10_byteAt : KM m_X10_byteAt 1 := ⟨tb_3 165 rfl rfl, wi_Encores_Tape, by decide +kernel, by decide +kernel⟩
theorem ki_X10_byteAt : Cond.instanceMethod m_X10_byteAt.2.1 ∈ TB := tb_3 164 rfl rfl
theorem kv_X10_byteAt : Cond.selects m_X10_byteAt.2.1.cls m_X10_byteAt.2.1 m_X10_byteAt.2.1 ∈ TB := tp_1 (q := (⟨"Encores$Tape", "byteAt", "(I)I"⟩, 7)) 12 rfl rfl
def m_X10_isBlank : MD := (prog_12_method_11_code, ⟨"Encores$Tape", "isBlank", "(I)Z"⟩, 1, (some .boolean))
theorem km_X10_isBlank : KM m_X10_isBlank 1 := ⟨tb_3 168 rfl rfl, wi_Encores_Tape, by decide +kernel, by decide +kernel⟩
theorem ks_X10_isBlank : Cond.static m_X10_isBlank.2.1 ∈ TB := tb_3 167 rfl rfl
def m_X10_isLetter : MD := (prog_12_method_12_code, ⟨"Encores$Tape", "isLetter", "(I)Z"⟩, 1, (some .boolean))
theorem km_X10_isLetter : KM m_X10_isLetter 1 := ⟨tb_3 183 rfl rfl, wi_Encores_Tape, by decide +kernel, by decide +kernel⟩
theorem ks_X10_isLetter : Cond.static m_X10_isLetter.2.1 ∈ TB := tb_3 182 rfl rfl
def m_X10_isDigit : MD := (prog_12_method_13_code, ⟨"Encores$Tape", "isDigit", "(I)Z"⟩, 1, (some .boolean))
theorem km_X10_isDigit : KM m_X10_isDigit 1 := ⟨tb_3 175 rfl rfl, wi_Encores_Tape, by decide +kernel, by decide +kernel⟩
theorem ks_X10_isDigit : Cond.static m_X10_isDigit.2.1 ∈ TB := tb_3 174 rfl rfl
def m_X10_isSign : MD := (prog_12_method_14_code, ⟨"Encores$Tape", "isSign", "(I)Z"⟩, 1, (some .boolean))
theorem km_X10_isSign : KM m_X10_isSign 1 := ⟨tb_3 186 rfl rfl, wi_Encores_Tape, by decide +kernel, by decide +kernel⟩
theorem ks_X10_isSign : Cond.static m_X10_isSign.2.1 ∈ TB := tb_3 185 rfl rfl
def m_X11_init : MD := (prog_1_method_1_code, ⟨"Encores", "<init>", "()V"⟩, 1, none)
theorem km_X11_init : KM m_X11_init 0 := ⟨tb_1 25 rfl rfl, wi_Encores, by decide +kernel, by decide +kernel⟩
theorem ki_X11_init : Cond.instanceMethod m_X11_init.2.1 ∈ TB := tb_1 24 rfl rfl
def m_X11_state : MD := (prog_1_method_2_code, ⟨"Encores", "state", "(I)I"⟩, 3, (some .int))
theorem km_X11_state : KM m_X11_state 1 := ⟨tb_2 158 rfl rfl, wi_Encores, by decide +kernel, by decide +kernel⟩
theorem ki_X11_state : Cond.instanceMethod m_X11_state.2.1 ∈ TB := tb_2 156 rfl rfl
theorem kv_X11_state : Cond.selects m_X11_state.2.1.cls m_X11_state.2.1 m_X11_state.2.1 ∈ TB := tb_2 157 rfl rfl
def m_X11_hearer : MD := (prog_1_method_3_code, ⟨"Encores", "hearer", "(III)I"⟩, 5, (some .int))
theorem km_X11_hearer : KM m_X11_hearer 3 := ⟨tb_2 178 rfl rfl, wi_Encores, by decide +kernel, by decide +kernel⟩
theorem ki_X11_hearer : Cond.instanceMethod m_X11_hearer.2.1 ∈ TB := tb_2 176 rfl rfl
theorem kv_X11_hearer : Cond.selects m_X11_hearer.2.1.cls m_X11_hearer.2.1 m_X11_hearer.2.1 ∈ TB := tb_2 177 rfl rfl
def m_X11_deed : MD := (prog_1_method_4_code, ⟨"Encores", "deed", "(III)I"⟩, 5, (some .int))
theorem km_X11_deed : KM m_X11_deed 3 := ⟨tb_2 187 rfl rfl, wi_Encores, by decide +kernel, by decide +kernel⟩
theorem ki_X11_deed : Cond.instanceMethod m_X11_deed.2.1 ∈ TB := tb_2 185 rfl rfl
theorem kv_X11_deed : Cond.selects m_X11_deed.2.1.cls m_X11_deed.2.1 m_X11_deed.2.1 ∈ TB := tb_2 186 rfl rfl
def m_X11_set : MD := (prog_1_method_5_code, ⟨"Encores", "set", "(III)Z"⟩, 5, (some .boolean))
theorem km_X11_set : KM m_X11_set 3 := ⟨tb_2 191 rfl rfl, wi_Encores, by decide +kernel, by decide +kernel⟩
theorem ki_X11_set : Cond.instanceMethod m_X11_set.2.1 ∈ TB := tb_2 189 rfl rfl
theorem kv_X11_set : Cond.selects m_X11_set.2.1.cls m_X11_set.2.1 m_X11_set.2.1 ∈ TB := tb_2 190 rfl rfl
def m_X11_setTo : MD := (prog_1_method_6_code, ⟨"Encores", "setTo", "(LEncores$Table;IIII)Z"⟩, 5, (some .boolean))
theorem km_X11_setTo : KM m_X11_setTo 5 := ⟨tb_2 194 rfl rfl, wi_Encores, by decide +kernel, by decide +kernel⟩
theorem ks_X11_setTo : Cond.static m_X11_setTo.2.1 ∈ TB := tb_2 193 rfl rfl
def m_X11_perform : MD := (prog_1_method_7_code, ⟨"Encores", "perform", "(I)I"⟩, 3, (some .int))
theorem km_X11_perform : KM m_X11_perform 1 := ⟨tb_2 202 rfl rfl, wi_Encores, by decide +kernel, by decide +kernel⟩
theorem ki_X11_perform : Cond.instanceMethod m_X11_perform.2.1 ∈ TB := tb_2 200 rfl rfl
theorem kv_X11_perform : Cond.selects m_X11_perform.2.1.cls m_X11_perform.2.1 m_X11_perform.2.1 ∈ TB := tb_2 201 rfl rfl
def m_X11_pay : MD := (prog_1_method_8_code, ⟨"Encores", "pay", "(II)Z"⟩, 3, (some .boolean))
theorem km_X11_pay : KM m_X11_pay 2 := ⟨tb_3 107 rfl rfl, wi_Encores, by decide +kernel, by decide +kernel⟩
theorem ki_X11_pay : Cond.instanceMethod m_X11_pay.2.1 ∈ TB := tb_3 105 rfl rfl
theorem kv_X11_pay : Cond.selects m_X11_pay.2.1.cls m_X11_pay.2.1 m_X11_pay.2.1 ∈ TB := tb_3 106 rfl rfl
def m_X11_glove : MD := (prog_1_method_9_code, ⟨"Encores", "glove", "(IZ)Z"⟩, 3, (some .boolean))
theorem km_X11_glove : KM m_X11_glove 2 := ⟨tb_3 113 rfl rfl, wi_Encores, by decide +kernel, by decide +kernel⟩
theorem ki_X11_glove : Cond.instanceMethod m_X11_glove.2.1 ∈ TB := tb_3 111 rfl rfl
theorem kv_X11_glove : Cond.selects m_X11_glove.2.1.cls m_X11_glove.2.1 m_X11_glove.2.1 ∈ TB := tb_3 112 rfl rfl
def m_X11_let : MD := (prog_1_method_10_code, ⟨"Encores", "let", "(IZ)Z"⟩, 3, (some .boolean))
theorem km_X11_let : KM m_X11_let 2 := ⟨tb_3 121 rfl rfl, wi_Encores, by decide +kernel, by decide +kernel⟩
theorem ki_X11_let : Cond.instanceMethod m_X11_let.2.1 ∈ TB := tb_3 119 rfl rfl
theorem kv_X11_let : Cond.selects m_X11_let.2.1.cls m_X11_let.2.1 m_X11_let.2.1 ∈ TB := tb_3 120 rfl rfl
def m_X11_turn : MD := (prog_1_method_11_code, ⟨"Encores", "turn", "(IIZI)Z"⟩, 6, (some .boolean))
theorem km_X11_turn : KM m_X11_turn 4 := ⟨tb_3 117 rfl rfl, wi_Encores, by decide +kernel, by decide +kernel⟩
theorem ki_X11_turn : Cond.instanceMethod m_X11_turn.2.1 ∈ TB := tb_3 116 rfl rfl
theorem kv_X11_turn : Cond.selects m_X11_turn.2.1.cls m_X11_turn.2.1 m_X11_turn.2.1 ∈ TB := tp_1 (q := (⟨"Encores", "turn", "(IIZI)Z"⟩, 13)) 11 rfl rfl
def m_X11_evenings : MD := (prog_1_method_12_code, ⟨"Encores", "evenings", "(I)I"⟩, 4, (some .int))
theorem km_X11_evenings : KM m_X11_evenings 1 := ⟨tb_3 125 rfl rfl, wi_Encores, by decide +kernel, by decide +kernel⟩
theorem ki_X11_evenings : Cond.instanceMethod m_X11_evenings.2.1 ∈ TB := tb_3 123 rfl rfl
theorem kv_X11_evenings : Cond.selects m_X11_evenings.2.1.cls m_X11_evenings.2.1 m_X11_evenings.2.1 ∈ TB := tb_3 124 rfl rfl
def m_X11_feed : MD := (prog_1_method_13_code, ⟨"Encores", "feed", "(IIIII)I"⟩, 6, (some .int))
theorem km_X11_feed : KM m_X11_feed 5 := ⟨tb_3 136 rfl rfl, wi_Encores, by decide +kernel, by decide +kernel⟩
theorem ki_X11_feed : Cond.instanceMethod m_X11_feed.2.1 ∈ TB := tb_3 134 rfl rfl
theorem kv_X11_feed : Cond.selects m_X11_feed.2.1.cls m_X11_feed.2.1 m_X11_feed.2.1 ∈ TB := tb_3 135 rfl rfl
def m_X11_end : MD := (prog_1_method_14_code, ⟨"Encores", "end", "(I)Z"⟩, 2, (some .boolean))
theorem km_X11_end : KM m_X11_end 1 := ⟨tb_3 148 rfl rfl, wi_Encores, by decide +kernel, by decide +kernel⟩
theorem ki_X11_end : Cond.instanceMethod m_X11_end.2.1 ∈ TB := tb_3 146 rfl rfl
theorem kv_X11_end : Cond.selects m_X11_end.2.1.cls m_X11_end.2.1 m_X11_end.2.1 ∈ TB := tb_3 147 rfl rfl
def m_X11_text : MD := (prog_1_method_15_code, ⟨"Encores", "text", "(I)I"⟩, 2, (some .int))
theorem km_X11_text : KM m_X11_text 1 := ⟨tb_3 152 rfl rfl, wi_Encores, by decide +kernel, by decide +kernel⟩
theorem ki_X11_text : Cond.instanceMethod m_X11_text.2.1 ∈ TB := tb_3 150 rfl rfl
theorem kv_X11_text : Cond.selects m_X11_text.2.1.cls m_X11_text.2.1 m_X11_text.2.1 ∈ TB := tb_3 151 rfl rfl
def m_X11_fault : MD := (prog_1_method_16_code, ⟨"Encores", "fault", "(I)I"⟩, 2, (some .int))
theorem km_X11_fault : KM m_X11_fault 1 := ⟨tb_4 101 rfl rfl, wi_Encores, by decide +kernel, by decide +kernel⟩
theorem ki_X11_fault : Cond.instanceMethod m_X11_fault.2.1 ∈ TB := tb_4 99 rfl rfl
theorem kv_X11_fault : Cond.selects m_X11_fault.2.1.cls m_X11_fault.2.1 m_X11_fault.2.1 ∈ TB := tb_4 100 rfl rfl
def m_X11_of : MD := (prog_1_method_17_code, ⟨"Encores", "of", "(II)I"⟩, 3, (some .int))
theorem km_X11_of : KM m_X11_of 2 := ⟨tb_4 105 rfl rfl, wi_Encores, by decide +kernel, by decide +kernel⟩
theorem ki_X11_of : Cond.instanceMethod m_X11_of.2.1 ∈ TB := tb_4 103 rfl rfl
theorem kv_X11_of : Cond.selects m_X11_of.2.1.cls m_X11_of.2.1 m_X11_of.2.1 ∈ TB := tb_4 104 rfl rfl
def m_X11_deedOf : MD := (prog_1_method_18_code, ⟨"Encores", "deedOf", "(II)I"⟩, 3, (some .int))
theorem km_X11_deedOf : KM m_X11_deedOf 2 := ⟨tb_4 110 rfl rfl, wi_Encores, by decide +kernel, by decide +kernel⟩
theorem ki_X11_deedOf : Cond.instanceMethod m_X11_deedOf.2.1 ∈ TB := tb_4 108 rfl rfl
theorem kv_X11_deedOf : Cond.selects m_X11_deedOf.2.1.cls m_X11_deedOf.2.1 m_X11_deedOf.2.1 ∈ TB := tb_4 109 rfl rfl
def m_X11_statute : MD := (prog_1_method_19_code, ⟨"Encores", "statute", "(I)I"⟩, 2, (some .int))
theorem km_X11_statute : KM m_X11_statute 1 := ⟨tb_4 115 rfl rfl, wi_Encores, by decide +kernel, by decide +kernel⟩
theorem ki_X11_statute : Cond.instanceMethod m_X11_statute.2.1 ∈ TB := tb_4 113 rfl rfl
theorem kv_X11_statute : Cond.selects m_X11_statute.2.1.cls m_X11_statute.2.1 m_X11_statute.2.1 ∈ TB := tb_4 114 rfl rfl
def m_X11_book : MD := (prog_1_method_20_code, ⟨"Encores", "book", "(II)I"⟩, 3, (some .int))
theorem km_X11_book : KM m_X11_book 2 := ⟨tb_4 122 rfl rfl, wi_Encores, by decide +kernel, by decide +kernel⟩
theorem ki_X11_book : Cond.instanceMethod m_X11_book.2.1 ∈ TB := tb_4 120 rfl rfl
theorem kv_X11_book : Cond.selects m_X11_book.2.1.cls m_X11_book.2.1 m_X11_book.2.1 ∈ TB := tb_4 121 rfl rfl
def m_X11_look : MD := (prog_1_method_21_code, ⟨"Encores", "look", "(I)I"⟩, 2, (some .int))
theorem km_X11_look : KM m_X11_look 1 := ⟨tb_4 126 rfl rfl, wi_Encores, by decide +kernel, by decide +kernel⟩
theorem ki_X11_look : Cond.instanceMethod m_X11_look.2.1 ∈ TB := tb_4 124 rfl rfl
theorem kv_X11_look : Cond.selects m_X11_look.2.1.cls m_X11_look.2.1 m_X11_look.2.1 ∈ TB := tb_4 125 rfl rfl
def m_X11_goes : MD := (prog_1_method_22_code, ⟨"Encores", "goes", "(I)I"⟩, 5, (some .int))
theorem km_X11_goes : KM m_X11_goes 1 := ⟨tb_4 132 rfl rfl, wi_Encores, by decide +kernel, by decide +kernel⟩
theorem ki_X11_goes : Cond.instanceMethod m_X11_goes.2.1 ∈ TB := tb_4 130 rfl rfl
theorem kv_X11_goes : Cond.selects m_X11_goes.2.1.cls m_X11_goes.2.1 m_X11_goes.2.1 ∈ TB := tb_4 131 rfl rfl
def m_X11_settles : MD := (prog_1_method_23_code, ⟨"Encores", "settles", "(II)I"⟩, 4, (some .int))
theorem km_X11_settles : KM m_X11_settles 2 := ⟨tb_4 141 rfl rfl, wi_Encores, by decide +kernel, by decide +kernel⟩
theorem ki_X11_settles : Cond.instanceMethod m_X11_settles.2.1 ∈ TB := tb_4 139 rfl rfl
theorem kv_X11_settles : Cond.selects m_X11_settles.2.1.cls m_X11_settles.2.1 m_X11_settles.2.1 ∈ TB := tb_4 140 rfl rfl
def m_X11_settle : MD := (prog_1_method_24_code, ⟨"Encores", "settle", "(I)I"⟩, 3, (some .int))
theorem km_X11_settle : KM m_X11_settle 1 := ⟨tb_4 145 rfl rfl, wi_Encores, by decide +kernel, by decide +kernel⟩
theorem ki_X11_settle : Cond.instanceMethod m_X11_settle.2.1 ∈ TB := tb_4 144 rfl rfl
theorem kv_X11_settle : Cond.selects m_X11_settle.2.1.cls m_X11_settle.2.1 m_X11_settle.2.1 ∈ TB := tp_3 (q := (⟨"Encores", "settle", "(I)I"⟩, 13)) 2 rfl rfl
def m_X11_makes : MD := (prog_1_method_25_code, ⟨"Encores", "makes", "(III)I"⟩, 4, (some .int))
theorem km_X11_makes : KM m_X11_makes 3 := ⟨tb_4 152 rfl rfl, wi_Encores, by decide +kernel, by decide +kernel⟩
theorem ki_X11_makes : Cond.instanceMethod m_X11_makes.2.1 ∈ TB := tb_4 150 rfl rfl
theorem kv_X11_makes : Cond.selects m_X11_makes.2.1.cls m_X11_makes.2.1 m_X11_makes.2.1 ∈ TB := tb_4 151 rfl rfl
def m_X11_brakes : MD := (prog_1_method_26_code, ⟨"Encores", "brakes", "(II)I"⟩, 3, (some .int))
theorem km_X11_brakes : KM m_X11_brakes 2 := ⟨tb_4 200 rfl rfl, wi_Encores, by decide +kernel, by decide +kernel⟩
theorem ki_X11_brakes : Cond.instanceMethod m_X11_brakes.2.1 ∈ TB := tb_4 198 rfl rfl
theorem kv_X11_brakes : Cond.selects m_X11_brakes.2.1.cls m_X11_brakes.2.1 m_X11_brakes.2.1 ∈ TB := tb_4 199 rfl rfl
def m_X11_fewestAway : MD := (prog_1_method_27_code, ⟨"Encores", "fewestAway", "(II)I"⟩, 3, (some .int))
theorem km_X11_fewestAway : KM m_X11_fewestAway 2 := ⟨tb_4 156 rfl rfl, wi_Encores, by decide +kernel, by decide +kernel⟩
theorem ki_X11_fewestAway : Cond.instanceMethod m_X11_fewestAway.2.1 ∈ TB := tb_4 155 rfl rfl
theorem kv_X11_fewestAway : Cond.selects m_X11_fewestAway.2.1.cls m_X11_fewestAway.2.1 m_X11_fewestAway.2.1 ∈ TB := tp_3 (q := (⟨"Encores", "fewestAway", "(II)I"⟩, 13)) 3 rfl rfl
def m_X11_numberOrSet : MD := (prog_1_method_28_code, ⟨"Encores", "numberOrSet", "(II)I"⟩, 2, (some .int))
theorem km_X11_numberOrSet : KM m_X11_numberOrSet 2 := ⟨tb_4 195 rfl rfl, wi_Encores, by decide +kernel, by decide +kernel⟩
theorem ks_X11_numberOrSet : Cond.static m_X11_numberOrSet.2.1 ∈ TB := tb_4 194 rfl rfl
def m_X11_gain : MD := (prog_1_method_29_code, ⟨"Encores", "gain", "(I)I"⟩, 4, (some .int))
theorem km_X11_gain : KM m_X11_gain 1 := ⟨tb_4 204 rfl rfl, wi_Encores, by decide +kernel, by decide +kernel⟩
theorem ki_X11_gain : Cond.instanceMethod m_X11_gain.2.1 ∈ TB := tb_4 202 rfl rfl
theorem kv_X11_gain : Cond.selects m_X11_gain.2.1.cls m_X11_gain.2.1 m_X11_gain.2.1 ∈ TB := tb_4 203 rfl rfl
def m_X11_calm : MD := (prog_1_method_30_code, ⟨"Encores", "calm", "(I)I"⟩, 7, (some .int))
theorem km_X11_calm : KM m_X11_calm 1 := ⟨tb_4 209 rfl rfl, wi_Encores, by decide +kernel, by decide +kernel⟩
theorem ki_X11_calm : Cond.instanceMethod m_X11_calm.2.1 ∈ TB := tb_4 207 rfl rfl
theorem kv_X11_calm : Cond.selects m_X11_calm.2.1.cls m_X11_calm.2.1 m_X11_calm.2.1 ∈ TB := tb_4 208 rfl rfl
def m_X11_tires : MD := (prog_1_method_31_code, ⟨"Encores", "tires", "(I)I"⟩, 4, (some .int))
theorem km_X11_tires : KM m_X11_tires 1 := ⟨tb_4 213 rfl rfl, wi_Encores, by decide +kernel, by decide +kernel⟩
theorem ki_X11_tires : Cond.instanceMethod m_X11_tires.2.1 ∈ TB := tb_4 211 rfl rfl
theorem kv_X11_tires : Cond.selects m_X11_tires.2.1.cls m_X11_tires.2.1 m_X11_tires.2.1 ∈ TB := tb_4 212 rfl rfl
def m_X11_eager : MD := (prog_1_method_32_code, ⟨"Encores", "eager", "(II)I"⟩, 8, (some .int))
theorem km_X11_eager : KM m_X11_eager 2 := ⟨tb_4 217 rfl rfl, wi_Encores, by decide +kernel, by decide +kernel⟩
theorem ki_X11_eager : Cond.instanceMethod m_X11_eager.2.1 ∈ TB := tb_4 215 rfl rfl
theorem kv_X11_eager : Cond.selects m_X11_eager.2.1.cls m_X11_eager.2.1 m_X11_eager.2.1 ∈ TB := tb_4 216 rfl rfl
def m_X11_price : MD := (prog_1_method_33_code, ⟨"Encores", "price", "(II)I"⟩, 5, (some .int))
theorem km_X11_price : KM m_X11_price 2 := ⟨tb_4 221 rfl rfl, wi_Encores, by decide +kernel, by decide +kernel⟩
theorem ki_X11_price : Cond.instanceMethod m_X11_price.2.1 ∈ TB := tb_4 219 rfl rfl
theorem kv_X11_price : Cond.selects m_X11_price.2.1.cls m_X11_price.2.1 m_X11_price.2.1 ∈ TB := tb_4 220 rfl rfl
def m_X11_fills : MD := (prog_1_method_34_code, ⟨"Encores", "fills", "(II)I"⟩, 4, (some .int))
theorem km_X11_fills : KM m_X11_fills 2 := ⟨tb_4 229 rfl rfl, wi_Encores, by decide +kernel, by decide +kernel⟩
theorem ki_X11_fills : Cond.instanceMethod m_X11_fills.2.1 ∈ TB := tb_4 227 rfl rfl
theorem kv_X11_fills : Cond.selects m_X11_fills.2.1.cls m_X11_fills.2.1 m_X11_fills.2.1 ∈ TB := tb_4 228 rfl rfl
def m_X11_lines : MD := (prog_1_method_35_code, ⟨"Encores", "lines", "(II)I"⟩, 3, (some .int))
theorem km_X11_lines : KM m_X11_lines 2 := ⟨tb_5 4 rfl rfl, wi_Encores, by decide +kernel, by decide +kernel⟩
theorem ki_X11_lines : Cond.instanceMethod m_X11_lines.2.1 ∈ TB := tb_5 2 rfl rfl
theorem kv_X11_lines : Cond.selects m_X11_lines.2.1.cls m_X11_lines.2.1 m_X11_lines.2.1 ∈ TB := tb_5 3 rfl rfl
def m_X11_bargain : MD := (prog_1_method_36_code, ⟨"Encores", "bargain", "(I)I"⟩, 4, (some .int))
theorem km_X11_bargain : KM m_X11_bargain 1 := ⟨tb_5 21 rfl rfl, wi_Encores, by decide +kernel, by decide +kernel⟩
theorem ki_X11_bargain : Cond.instanceMethod m_X11_bargain.2.1 ∈ TB := tb_5 19 rfl rfl
theorem kv_X11_bargain : Cond.selects m_X11_bargain.2.1.cls m_X11_bargain.2.1 m_X11_bargain.2.1 ∈ TB := tb_5 20 rfl rfl
def m_X11_game : MD := (prog_1_method_37_code, ⟨"Encores", "game", "(I)I"⟩, 3, (some .int))
theorem km_X11_game : KM m_X11_game 1 := ⟨tb_5 25 rfl rfl, wi_Encores, by decide +kernel, by decide +kernel⟩
theorem ki_X11_game : Cond.instanceMethod m_X11_game.2.1 ∈ TB := tb_5 23 rfl rfl
theorem kv_X11_game : Cond.selects m_X11_game.2.1.cls m_X11_game.2.1 m_X11_game.2.1 ∈ TB := tb_5 24 rfl rfl
def m_X11_claque : MD := (prog_1_method_38_code, ⟨"Encores", "claque", "(II)I"⟩, 3, (some .int))
theorem km_X11_claque : KM m_X11_claque 2 := ⟨tb_5 43 rfl rfl, wi_Encores, by decide +kernel, by decide +kernel⟩
theorem ki_X11_claque : Cond.instanceMethod m_X11_claque.2.1 ∈ TB := tb_5 41 rfl rfl
theorem kv_X11_claque : Cond.selects m_X11_claque.2.1.cls m_X11_claque.2.1 m_X11_claque.2.1 ∈ TB := tb_5 42 rfl rfl
def m_X11_fits : MD := (prog_1_method_39_code, ⟨"Encores", "fits", "(I)I"⟩, 6, (some .int))
theorem km_X11_fits : KM m_X11_fits 1 := ⟨tb_5 47 rfl rfl, wi_Encores, by decide +kernel, by decide +kernel⟩
theorem ki_X11_fits : Cond.instanceMethod m_X11_fits.2.1 ∈ TB := tb_5 45 rfl rfl
theorem kv_X11_fits : Cond.selects m_X11_fits.2.1.cls m_X11_fits.2.1 m_X11_fits.2.1 ∈ TB := tb_5 46 rfl rfl
def m_X11_couldBePaid : MD := (prog_1_method_40_code, ⟨"Encores", "couldBePaid", "(I)Z"⟩, 3, (some .boolean))
theorem km_X11_couldBePaid : KM m_X11_couldBePaid 1 := ⟨tb_5 55 rfl rfl, wi_Encores, by decide +kernel, by decide +kernel⟩
theorem ki_X11_couldBePaid : Cond.instanceMethod m_X11_couldBePaid.2.1 ∈ TB := tb_5 54 rfl rfl
theorem kv_X11_couldBePaid : Cond.selects m_X11_couldBePaid.2.1.cls m_X11_couldBePaid.2.1 m_X11_couldBePaid.2.1 ∈ TB := tp_3 (q := (⟨"Encores", "couldBePaid", "(I)Z"⟩, 13)) 9 rfl rfl
def m_X11_clearWith : MD := (prog_1_method_41_code, ⟨"Encores", "clearWith", "()V"⟩, 2, none)
theorem km_X11_clearWith : KM m_X11_clearWith 0 := ⟨tb_5 51 rfl rfl, wi_Encores, by decide +kernel, by decide +kernel⟩
theorem ki_X11_clearWith : Cond.instanceMethod m_X11_clearWith.2.1 ∈ TB := tb_5 50 rfl rfl
theorem kv_X11_clearWith : Cond.selects m_X11_clearWith.2.1.cls m_X11_clearWith.2.1 m_X11_clearWith.2.1 ∈ TB := tp_3 (q := (⟨"Encores", "clearWith", "()V"⟩, 13)) 8 rfl rfl
def m_X11_countWith : MD := (prog_1_method_42_code, ⟨"Encores", "countWith", "(I)V"⟩, 3, none)
theorem km_X11_countWith : KM m_X11_countWith 1 := ⟨tb_5 59 rfl rfl, wi_Encores, by decide +kernel, by decide +kernel⟩
theorem ki_X11_countWith : Cond.instanceMethod m_X11_countWith.2.1 ∈ TB := tb_5 58 rfl rfl
theorem kv_X11_countWith : Cond.selects m_X11_countWith.2.1.cls m_X11_countWith.2.1 m_X11_countWith.2.1 ∈ TB := tp_3 (q := (⟨"Encores", "countWith", "(I)V"⟩, 13)) 10 rfl rfl
def m_X11_whomToAsk : MD := (prog_1_method_43_code, ⟨"Encores", "whomToAsk", "(I)I"⟩, 6, (some .int))
theorem km_X11_whomToAsk : KM m_X11_whomToAsk 1 := ⟨tb_5 63 rfl rfl, wi_Encores, by decide +kernel, by decide +kernel⟩
theorem ki_X11_whomToAsk : Cond.instanceMethod m_X11_whomToAsk.2.1 ∈ TB := tb_5 62 rfl rfl
theorem kv_X11_whomToAsk : Cond.selects m_X11_whomToAsk.2.1.cls m_X11_whomToAsk.2.1 m_X11_whomToAsk.2.1 ∈ TB := tp_3 (q := (⟨"Encores", "whomToAsk", "(I)I"⟩, 13)) 11 rfl rfl
def m_X11_brides : MD := (prog_1_method_44_code, ⟨"Encores", "brides", "()I"⟩, 7, (some .int))
theorem km_X11_brides : KM m_X11_brides 0 := ⟨tb_5 68 rfl rfl, wi_Encores, by decide +kernel, by decide +kernel⟩
theorem ki_X11_brides : Cond.instanceMethod m_X11_brides.2.1 ∈ TB := tb_5 66 rfl rfl
theorem kv_X11_brides : Cond.selects m_X11_brides.2.1.cls m_X11_brides.2.1 m_X11_brides.2.1 ∈ TB := tb_5 67 rfl rfl
def m_X11_share : MD := (prog_1_method_45_code, ⟨"Encores", "share", "(II)I"⟩, 10, (some .int))
theorem km_X11_share : KM m_X11_share 2 := ⟨tb_5 73 rfl rfl, wi_Encores, by decide +kernel, by decide +kernel⟩
theorem ki_X11_share : Cond.instanceMethod m_X11_share.2.1 ∈ TB := tb_5 71 rfl rfl
theorem kv_X11_share : Cond.selects m_X11_share.2.1.cls m_X11_share.2.1 m_X11_share.2.1 ∈ TB := tb_5 72 rfl rfl
def m_X11_weight : MD := (prog_1_method_46_code, ⟨"Encores", "weight", "(I)I"⟩, 2, (some .int))
theorem km_X11_weight : KM m_X11_weight 1 := ⟨tb_5 81 rfl rfl, wi_Encores, by decide +kernel, by decide +kernel⟩
theorem ki_X11_weight : Cond.instanceMethod m_X11_weight.2.1 ∈ TB := tb_5 80 rfl rfl
theorem kv_X11_weight : Cond.selects m_X11_weight.2.1.cls m_X11_weight.2.1 m_X11_weight.2.1 ∈ TB := tp_3 (q := (⟨"Encores", "weight", "(I)I"⟩, 13)) 13 rfl rfl
def m_X11_weightOfAll : MD := (prog_1_method_47_code, ⟨"Encores", "weightOfAll", "()I"⟩, 3, (some .int))
theorem km_X11_weightOfAll : KM m_X11_weightOfAll 0 := ⟨tb_5 77 rfl rfl, wi_Encores, by decide +kernel, by decide +kernel⟩
theorem ki_X11_weightOfAll : Cond.instanceMethod m_X11_weightOfAll.2.1 ∈ TB := tb_5 76 rfl rfl
theorem kv_X11_weightOfAll : Cond.selects m_X11_weightOfAll.2.1.cls m_X11_weightOfAll.2.1 m_X11_weightOfAll.2.1 ∈ TB := tp_3 (q := (⟨"Encores", "weightOfAll", "()I"⟩, 13)) 12 rfl rfl
def m_X11_near : MD := (prog_1_method_48_code, ⟨"Encores", "near", "(II)I"⟩, 3, (some .int))
theorem km_X11_near : KM m_X11_near 2 := ⟨tb_5 85 rfl rfl, wi_Encores, by decide +kernel, by decide +kernel⟩
theorem ki_X11_near : Cond.instanceMethod m_X11_near.2.1 ∈ TB := tb_5 83 rfl rfl
theorem kv_X11_near : Cond.selects m_X11_near.2.1.cls m_X11_near.2.1 m_X11_near.2.1 ∈ TB := tb_5 84 rfl rfl
def m_X11_cuts : MD := (prog_1_method_49_code, ⟨"Encores", "cuts", "(III)I"⟩, 4, (some .int))
theorem km_X11_cuts : KM m_X11_cuts 3 := ⟨tb_5 99 rfl rfl, wi_Encores, by decide +kernel, by decide +kernel⟩
theorem ki_X11_cuts : Cond.instanceMethod m_X11_cuts.2.1 ∈ TB := tb_5 97 rfl rfl
theorem kv_X11_cuts : Cond.selects m_X11_cuts.2.1.cls m_X11_cuts.2.1 m_X11_cuts.2.1 ∈ TB := tb_5 98 rfl rfl
def m_X11_groups : MD := (prog_1_method_50_code, ⟨"Encores", "groups", "(I)I"⟩, 7, (some .int))
theorem km_X11_groups : KM m_X11_groups 1 := ⟨tb_5 112 rfl rfl, wi_Encores, by decide +kernel, by decide +kernel⟩
theorem ki_X11_groups : Cond.instanceMethod m_X11_groups.2.1 ∈ TB := tb_5 110 rfl rfl
theorem kv_X11_groups : Cond.selects m_X11_groups.2.1.cls m_X11_groups.2.1 m_X11_groups.2.1 ∈ TB := tb_5 111 rfl rfl
def m_X11_means : MD := (prog_1_method_51_code, ⟨"Encores", "means", "(II)Z"⟩, 3, (some .boolean))
theorem km_X11_means : KM m_X11_means 2 := ⟨tb_5 116 rfl rfl, wi_Encores, by decide +kernel, by decide +kernel⟩
theorem ki_X11_means : Cond.instanceMethod m_X11_means.2.1 ∈ TB := tb_5 114 rfl rfl
theorem kv_X11_means : Cond.selects m_X11_means.2.1.cls m_X11_means.2.1 m_X11_means.2.1 ∈ TB := tb_5 115 rfl rfl
def m_X11_passed : MD := (prog_1_method_52_code, ⟨"Encores", "passed", "(III)I"⟩, 7, (some .int))
theorem km_X11_passed : KM m_X11_passed 3 := ⟨tb_5 120 rfl rfl, wi_Encores, by decide +kernel, by decide +kernel⟩
theorem ki_X11_passed : Cond.instanceMethod m_X11_passed.2.1 ∈ TB := tb_5 118 rfl rfl
theorem kv_X11_passed : Cond.selects m_X11_passed.2.1.cls m_X11_passed.2.1 m_X11_passed.2.1 ∈ TB := tb_5 119 rfl rfl
def m_X11_meaningBehind : MD := (prog_1_method_53_code, ⟨"Encores", "meaningBehind", "(II)I"⟩, 5, (some .int))
theorem km_X11_meaningBehind : KM m_X11_meaningBehind 2 := ⟨tb_5 124 rfl rfl, wi_Encores, by decide +kernel, by decide +kernel⟩
theorem ki_X11_meaningBehind : Cond.instanceMethod m_X11_meaningBehind.2.1 ∈ TB := tb_5 123 rfl rfl
theorem kv_X11_meaningBehind : Cond.selects m_X11_meaningBehind.2.1.cls m_X11_meaningBehind.2.1 m_X11_meaningBehind.2.1 ∈ TB := tp_3 (q := (⟨"Encores", "meaningBehind", "(II)I"⟩, 13)) 14 rfl rfl
def m_X11_timesRound : MD := (prog_1_method_54_code, ⟨"Encores", "timesRound", "(I)I"⟩, 4, (some .int))
theorem km_X11_timesRound : KM m_X11_timesRound 1 := ⟨tb_5 128 rfl rfl, wi_Encores, by decide +kernel, by decide +kernel⟩
theorem ki_X11_timesRound : Cond.instanceMethod m_X11_timesRound.2.1 ∈ TB := tb_5 127 rfl rfl
theorem kv_X11_timesRound : Cond.selects m_X11_timesRound.2.1.cls m_X11_timesRound.2.1 m_X11_timesRound.2.1 ∈ TB := tp_3 (q := (⟨"Encores", "timesRound", "(I)I"⟩, 13)) 15 rfl rfl
def m_X11_undo : MD := (prog_1_method_55_code, ⟨"Encores", "undo", "()Z"⟩, 1, (some .boolean))
theorem km_X11_undo : KM m_X11_undo 0 := ⟨tb_5 132 rfl rfl, wi_Encores, by decide +kernel, by decide +kernel⟩
theorem ki_X11_undo : Cond.instanceMethod m_X11_undo.2.1 ∈ TB := tb_5 130 rfl rfl
theorem kv_X11_undo : Cond.selects m_X11_undo.2.1.cls m_X11_undo.2.1 m_X11_undo.2.1 ∈ TB := tb_5 131 rfl rfl
def m_X11_image : MD := (prog_1_method_56_code, ⟨"Encores", "image", "(Z)Z"⟩, 2, (some .boolean))
theorem km_X11_image : KM m_X11_image 1 := ⟨tb_5 141 rfl rfl, wi_Encores, by decide +kernel, by decide +kernel⟩
theorem ki_X11_image : Cond.instanceMethod m_X11_image.2.1 ∈ TB := tb_5 139 rfl rfl
theorem kv_X11_image : Cond.selects m_X11_image.2.1.cls m_X11_image.2.1 m_X11_image.2.1 ∈ TB := tb_5 140 rfl rfl
def m_X11_within : MD := (prog_1_method_57_code, ⟨"Encores", "within", "(III)Z"⟩, 3, (some .boolean))
theorem km_X11_within : KM m_X11_within 3 := ⟨tb_2 181 rfl rfl, wi_Encores, by decide +kernel, by decide +kernel⟩
theorem ks_X11_within : Cond.static m_X11_within.2.1 ∈ TB := tb_2 180 rfl rfl
def m_X11_isIn : MD := (prog_1_method_58_code, ⟨"Encores", "isIn", "(II)Z"⟩, 2, (some .boolean))
theorem km_X11_isIn : KM m_X11_isIn 2 := ⟨tb_3 53 rfl rfl, wi_Encores, by decide +kernel, by decide +kernel⟩
theorem ks_X11_isIn : Cond.static m_X11_isIn.2.1 ∈ TB := tb_3 52 rfl rfl
def m_X11_nextWithin : MD := (prog_1_method_59_code, ⟨"Encores", "nextWithin", "(II)I"⟩, 2, (some .int))
theorem km_X11_nextWithin : KM m_X11_nextWithin 2 := ⟨tb_4 192 rfl rfl, wi_Encores, by decide +kernel, by decide +kernel⟩
theorem ks_X11_nextWithin : Cond.static m_X11_nextWithin.2.1 ∈ TB := tb_4 191 rfl rfl
def m_X12_init : MD := (prog_14_method_1_code, ⟨"EncoresModel", "<init>", "()V"⟩, 2, none)
theorem km_X12_init : KM m_X12_init 0 := ⟨tb_5 150 rfl rfl, wi_EncoresModel, by decide +kernel, by decide +kernel⟩
theorem ki_X12_init : Cond.instanceMethod m_X12_init.2.1 ∈ TB := tb_5 149 rfl rfl
def m_X12_isIn : MD := (prog_14_method_2_code, ⟨"EncoresModel", "isIn", "(III)Z"⟩, 3, (some .boolean))
theorem km_X12_isIn : KM m_X12_isIn 3 := ⟨tb_6 32 rfl rfl, wi_EncoresModel, by decide +kernel, by decide +kernel⟩
theorem ks_X12_isIn : Cond.static m_X12_isIn.2.1 ∈ TB := tb_6 31 rfl rfl
def m_X12_lesser : MD := (prog_14_method_3_code, ⟨"EncoresModel", "lesser", "(II)I"⟩, 2, (some .int))
theorem km_X12_lesser : KM m_X12_lesser 2 := ⟨tb_7 29 rfl rfl, wi_EncoresModel, by decide +kernel, by decide +kernel⟩
theorem ks_X12_lesser : Cond.static m_X12_lesser.2.1 ∈ TB := tb_7 28 rfl rfl
def m_X12_greater : MD := (prog_14_method_4_code, ⟨"EncoresModel", "greater", "(II)I"⟩, 2, (some .int))
theorem km_X12_greater : KM m_X12_greater 2 := ⟨tb_7 32 rfl rfl, wi_EncoresModel, by decide +kernel, by decide +kernel⟩
theorem ks_X12_greater : Cond.static m_X12_greater.2.1 ∈ TB := tb_7 31 rfl rfl
def m_X12_isHearer : MD := (prog_14_method_5_code, ⟨"EncoresModel", "isHearer", "(I)Z"⟩, 2, (some .boolean))
theorem km_X12_isHearer : KM m_X12_isHearer 1 := ⟨tb_6 48 rfl rfl, wi_EncoresModel, by decide +kernel, by decide +kernel⟩
theorem ki_X12_isHearer : Cond.instanceMethod m_X12_isHearer.2.1 ∈ TB := tb_6 47 rfl rfl
theorem kv_X12_isHearer : Cond.selects m_X12_isHearer.2.1.cls m_X12_isHearer.2.1 m_X12_isHearer.2.1 ∈ TB := tp_4 (q := (⟨"EncoresModel", "isHearer", "(I)Z"⟩, 35)) 2 rfl rfl
def m_X12_isDeed : MD := (prog_14_method_6_code, ⟨"EncoresModel", "isDeed", "(I)Z"⟩, 2, (some .boolean))
theorem km_X12_isDeed : KM m_X12_isDeed 1 := ⟨tb_6 52 rfl rfl, wi_EncoresModel, by decide +kernel, by decide +kernel⟩
theorem ki_X12_isDeed : Cond.instanceMethod m_X12_isDeed.2.1 ∈ TB := tb_6 51 rfl rfl
theorem kv_X12_isDeed : Cond.selects m_X12_isDeed.2.1.cls m_X12_isDeed.2.1 m_X12_isDeed.2.1 ∈ TB := tp_4 (q := (⟨"EncoresModel", "isDeed", "(I)Z"⟩, 35)) 3 rfl rfl
def m_X12_isThere : MD := (prog_14_method_7_code, ⟨"EncoresModel", "isThere", "(I)Z"⟩, 2, (some .boolean))
theorem km_X12_isThere : KM m_X12_isThere 1 := ⟨tb_7 40 rfl rfl, wi_EncoresModel, by decide +kernel, by decide +kernel⟩
theorem ki_X12_isThere : Cond.instanceMethod m_X12_isThere.2.1 ∈ TB := tb_7 39 rfl rfl
theorem kv_X12_isThere : Cond.selects m_X12_isThere.2.1.cls m_X12_isThere.2.1 m_X12_isThere.2.1 ∈ TB := tp_6 (q := (⟨"EncoresModel", "isThere", "(I)Z"⟩, 35)) 12 rfl rfl
def m_X12_isGloved : MD := (prog_14_method_8_code, ⟨"EncoresModel", "isGloved", "(I)Z"⟩, 2, (some .boolean))
theorem km_X12_isGloved : KM m_X12_isGloved 1 := ⟨tb_7 54 rfl rfl, wi_EncoresModel, by decide +kernel, by decide +kernel⟩
theorem ki_X12_isGloved : Cond.instanceMethod m_X12_isGloved.2.1 ∈ TB := tb_7 53 rfl rfl
theorem kv_X12_isGloved : Cond.selects m_X12_isGloved.2.1.cls m_X12_isGloved.2.1 m_X12_isGloved.2.1 ∈ TB := tp_6 (q := (⟨"EncoresModel", "isGloved", "(I)Z"⟩, 35)) 15 rfl rfl
def m_X12_allHearers : MD := (prog_14_method_9_code, ⟨"EncoresModel", "allHearers", "()I"⟩, 1, (some .int))
theorem km_X12_allHearers : KM m_X12_allHearers 0 := ⟨tb_7 220 rfl rfl, wi_EncoresModel, by decide +kernel, by decide +kernel⟩
theorem ki_X12_allHearers : Cond.instanceMethod m_X12_allHearers.2.1 ∈ TB := tb_7 219 rfl rfl
theorem kv_X12_allHearers : Cond.selects m_X12_allHearers.2.1.cls m_X12_allHearers.2.1 m_X12_allHearers.2.1 ∈ TB := tp_8 (q := (⟨"EncoresModel", "allHearers", "()I"⟩, 35)) 2 rfl rfl
def m_X12_count : MD := (prog_14_method_10_code, ⟨"EncoresModel", "count", "(I)I"⟩, 3, (some .int))
theorem km_X12_count : KM m_X12_count 1 := ⟨tb_7 57 rfl rfl, wi_EncoresModel, by decide +kernel, by decide +kernel⟩
theorem ks_X12_count : Cond.static m_X12_count.2.1 ∈ TB := tb_7 56 rfl rfl
def m_X12_forgets : MD := (prog_14_method_11_code, ⟨"EncoresModel", "forgets", "()V"⟩, 1, none)
theorem km_X12_forgets : KM m_X12_forgets 0 := ⟨tb_6 25 rfl rfl, wi_EncoresModel, by decide +kernel, by decide +kernel⟩
theorem ki_X12_forgets : Cond.instanceMethod m_X12_forgets.2.1 ∈ TB := tb_6 24 rfl rfl
theorem kv_X12_forgets : Cond.selects m_X12_forgets.2.1.cls m_X12_forgets.2.1 m_X12_forgets.2.1 ∈ TB := tp_4 (q := (⟨"EncoresModel", "forgets", "()V"⟩, 35)) 0 rfl rfl
def m_X12_state : MD := (prog_14_method_12_code, ⟨"EncoresModel", "state", "(I)I"⟩, 3, (some .int))
theorem km_X12_state : KM m_X12_state 1 := ⟨tb_6 21 rfl rfl, wi_EncoresModel, by decide +kernel, by decide +kernel⟩
theorem ki_X12_state : Cond.instanceMethod m_X12_state.2.1 ∈ TB := tb_6 19 rfl rfl
theorem kv_X12_state : Cond.selects m_X12_state.2.1.cls m_X12_state.2.1 m_X12_state.2.1 ∈ TB := tb_6 20 rfl rfl
def m_X12_draw : MD := (prog_14_method_13_code, ⟨"EncoresModel", "draw", "(I)I"⟩, 2, (some .int))
theorem km_X12_draw : KM m_X12_draw 1 := ⟨tb_7 44 rfl rfl, wi_EncoresModel, by decide +kernel, by decide +kernel⟩
theorem ki_X12_draw : Cond.instanceMethod m_X12_draw.2.1 ∈ TB := tb_7 43 rfl rfl
theorem kv_X12_draw : Cond.selects m_X12_draw.2.1.cls m_X12_draw.2.1 m_X12_draw.2.1 ∈ TB := tp_6 (q := (⟨"EncoresModel", "draw", "(I)I"⟩, 35)) 13 rfl rfl
def m_X12_hearer : MD := (prog_14_method_14_code, ⟨"EncoresModel", "hearer", "(III)I"⟩, 5, (some .int))
theorem km_X12_hearer : KM m_X12_hearer 3 := ⟨tb_6 29 rfl rfl, wi_EncoresModel, by decide +kernel, by decide +kernel⟩
theorem ki_X12_hearer : Cond.instanceMethod m_X12_hearer.2.1 ∈ TB := tb_6 27 rfl rfl
theorem kv_X12_hearer : Cond.selects m_X12_hearer.2.1.cls m_X12_hearer.2.1 m_X12_hearer.2.1 ∈ TB := tb_6 28 rfl rfl
def m_X12_deed : MD := (prog_14_method_15_code, ⟨"EncoresModel", "deed", "(III)I"⟩, 5, (some .int))
theorem km_X12_deed : KM m_X12_deed 3 := ⟨tb_6 36 rfl rfl, wi_EncoresModel, by decide +kernel, by decide +kernel⟩
theorem ki_X12_deed : Cond.instanceMethod m_X12_deed.2.1 ∈ TB := tb_6 34 rfl rfl
theorem kv_X12_deed : Cond.selects m_X12_deed.2.1.cls m_X12_deed.2.1 m_X12_deed.2.1 ∈ TB := tb_6 35 rfl rfl
def m_X12_canSet : MD := (prog_14_method_16_code, ⟨"EncoresModel", "canSet", "(III)Z"⟩, 4, (some .boolean))
theorem km_X12_canSet : KM m_X12_canSet 3 := ⟨tb_6 44 rfl rfl, wi_EncoresModel, by decide +kernel, by decide +kernel⟩
theorem ki_X12_canSet : Cond.instanceMethod m_X12_canSet.2.1 ∈ TB := tb_6 43 rfl rfl
theorem kv_X12_canSet : Cond.selects m_X12_canSet.2.1.cls m_X12_canSet.2.1 m_X12_canSet.2.1 ∈ TB := tp_4 (q := (⟨"EncoresModel", "canSet", "(III)Z"⟩, 35)) 1 rfl rfl
def m_X12_set : MD := (prog_14_method_17_code, ⟨"EncoresModel", "set", "(III)Z"⟩, 4, (some .boolean))
theorem km_X12_set : KM m_X12_set 3 := ⟨tb_6 40 rfl rfl, wi_EncoresModel, by decide +kernel, by decide +kernel⟩
theorem ki_X12_set : Cond.instanceMethod m_X12_set.2.1 ∈ TB := tb_6 38 rfl rfl
theorem kv_X12_set : Cond.selects m_X12_set.2.1.cls m_X12_set.2.1 m_X12_set.2.1 ∈ TB := tb_6 39 rfl rfl
def m_X12_feed : MD := (prog_14_method_18_code, ⟨"EncoresModel", "feed", "(IIIII)I"⟩, 8, (some .int))
theorem km_X12_feed : KM m_X12_feed 5 := ⟨tb_6 56 rfl rfl, wi_EncoresModel, by decide +kernel, by decide +kernel⟩
theorem ki_X12_feed : Cond.instanceMethod m_X12_feed.2.1 ∈ TB := tb_6 54 rfl rfl
theorem kv_X12_feed : Cond.selects m_X12_feed.2.1.cls m_X12_feed.2.1 m_X12_feed.2.1 ∈ TB := tb_6 55 rfl rfl
def m_X12_end : MD := (prog_14_method_19_code, ⟨"EncoresModel", "end", "(I)Z"⟩, 2, (some .boolean))
theorem km_X12_end : KM m_X12_end 1 := ⟨tb_6 60 rfl rfl, wi_EncoresModel, by decide +kernel, by decide +kernel⟩
theorem ki_X12_end : Cond.instanceMethod m_X12_end.2.1 ∈ TB := tb_6 58 rfl rfl
theorem kv_X12_end : Cond.selects m_X12_end.2.1.cls m_X12_end.2.1 m_X12_end.2.1 ∈ TB := tb_6 59 rfl rfl
def m_X12_see : MD := (prog_14_method_20_code, ⟨"EncoresModel", "see", "(I)I"⟩, 2, (some .int))
theorem km_X12_see : KM m_X12_see 1 := ⟨tb_6 72 rfl rfl, wi_EncoresModel, by decide +kernel, by decide +kernel⟩
theorem ki_X12_see : Cond.instanceMethod m_X12_see.2.1 ∈ TB := tb_6 71 rfl rfl
theorem kv_X12_see : Cond.selects m_X12_see.2.1.cls m_X12_see.2.1 m_X12_see.2.1 ∈ TB := tp_4 (q := (⟨"EncoresModel", "see", "(I)I"⟩, 35)) 5 rfl rfl
def m_X12_isLetter : MD := (prog_14_method_21_code, ⟨"EncoresModel", "isLetter", "(I)Z"⟩, 1, (some .boolean))
theorem km_X12_isLetter : KM m_X12_isLetter 1 := ⟨tb_6 75 rfl rfl, wi_EncoresModel, by decide +kernel, by decide +kernel⟩
theorem ks_X12_isLetter : Cond.static m_X12_isLetter.2.1 ∈ TB := tb_6 74 rfl rfl
def m_X12_isDigit : MD := (prog_14_method_22_code, ⟨"EncoresModel", "isDigit", "(I)Z"⟩, 1, (some .boolean))
theorem km_X12_isDigit : KM m_X12_isDigit 1 := ⟨tb_6 123 rfl rfl, wi_EncoresModel, by decide +kernel, by decide +kernel⟩
theorem ks_X12_isDigit : Cond.static m_X12_isDigit.2.1 ∈ TB := tb_6 122 rfl rfl
def m_X12_is : MD := (prog_14_method_23_code, ⟨"EncoresModel", "is", "(Ljava/lang/String;)Z"⟩, 4, (some .boolean))
theorem km_X12_is : KM m_X12_is 1 := ⟨tb_6 88 rfl rfl, wi_EncoresModel, by decide +kernel, by decide +kernel⟩
theorem ki_X12_is : Cond.instanceMethod m_X12_is.2.1 ∈ TB := tb_6 87 rfl rfl
theorem kv_X12_is : Cond.selects m_X12_is.2.1.cls m_X12_is.2.1 m_X12_is.2.1 ∈ TB := tp_4 (q := (⟨"EncoresModel", "is", "(Ljava/lang/String;)Z"⟩, 35)) 8 rfl rfl
def m_X12_asked : MD := (prog_14_method_24_code, ⟨"EncoresModel", "asked", "()I"⟩, 1, (some .int))
theorem km_X12_asked : KM m_X12_asked 0 := ⟨tb_6 100 rfl rfl, wi_EncoresModel, by decide +kernel, by decide +kernel⟩
theorem ki_X12_asked : Cond.instanceMethod m_X12_asked.2.1 ∈ TB := tb_6 99 rfl rfl
theorem kv_X12_asked : Cond.selects m_X12_asked.2.1.cls m_X12_asked.2.1 m_X12_asked.2.1 ∈ TB := tp_4 (q := (⟨"EncoresModel", "asked", "()I"⟩, 35)) 9 rfl rfl
def m_X12_lawWord : MD := (prog_14_method_25_code, ⟨"EncoresModel", "lawWord", "()I"⟩, 1, (some .int))
theorem km_X12_lawWord : KM m_X12_lawWord 0 := ⟨tb_6 83 rfl rfl, wi_EncoresModel, by decide +kernel, by decide +kernel⟩
theorem ki_X12_lawWord : Cond.instanceMethod m_X12_lawWord.2.1 ∈ TB := tb_6 82 rfl rfl
theorem kv_X12_lawWord : Cond.selects m_X12_lawWord.2.1.cls m_X12_lawWord.2.1 m_X12_lawWord.2.1 ∈ TB := tp_4 (q := (⟨"EncoresModel", "lawWord", "()I"⟩, 35)) 7 rfl rfl
def m_X12_statuteWord : MD := (prog_14_method_26_code, ⟨"EncoresModel", "statuteWord", "()I"⟩, 1, (some .int))
theorem km_X12_statuteWord : KM m_X12_statuteWord 0 := ⟨tb_6 114 rfl rfl, wi_EncoresModel, by decide +kernel, by decide +kernel⟩
theorem ki_X12_statuteWord : Cond.instanceMethod m_X12_statuteWord.2.1 ∈ TB := tb_6 113 rfl rfl
theorem kv_X12_statuteWord : Cond.selects m_X12_statuteWord.2.1.cls m_X12_statuteWord.2.1 m_X12_statuteWord.2.1 ∈ TB := tp_4 (q := (⟨"EncoresModel", "statuteWord", "()I"⟩, 35)) 10 rfl rfl
def m_X12_word : MD := (prog_14_method_27_code, ⟨"EncoresModel", "word", "()I"⟩, 1, (some .int))
theorem km_X12_word : KM m_X12_word 0 := ⟨tb_6 79 rfl rfl, wi_EncoresModel, by decide +kernel, by decide +kernel⟩
theorem ki_X12_word : Cond.instanceMethod m_X12_word.2.1 ∈ TB := tb_6 78 rfl rfl
theorem kv_X12_word : Cond.selects m_X12_word.2.1.cls m_X12_word.2.1 m_X12_word.2.1 ∈ TB := tp_4 (q := (⟨"EncoresModel", "word", "()I"⟩, 35)) 6 rfl rfl
def m_X12_next0 : MD := (prog_14_method_28_code, ⟨"EncoresModel", "next0", "()V"⟩, 3, none)
theorem km_X12_next0 : KM m_X12_next0 0 := ⟨tb_6 68 rfl rfl, wi_EncoresModel, by decide +kernel, by decide +kernel⟩
theorem ki_X12_next0 : Cond.instanceMethod m_X12_next0.2.1 ∈ TB := tb_6 67 rfl rfl
theorem kv_X12_next0 : Cond.selects m_X12_next0.2.1.cls m_X12_next0.2.1 m_X12_next0.2.1 ∈ TB := tp_4 (q := (⟨"EncoresModel", "next0", "()V"⟩, 35)) 4 rfl rfl
def m_X12_bad : MD := (prog_14_method_29_code, ⟨"EncoresModel", "bad", "(I)Z"⟩, 2, (some .boolean))
theorem km_X12_bad : KM m_X12_bad 1 := ⟨tb_6 135 rfl rfl, wi_EncoresModel, by decide +kernel, by decide +kernel⟩
theorem ki_X12_bad : Cond.instanceMethod m_X12_bad.2.1 ∈ TB := tb_6 134 rfl rfl
theorem kv_X12_bad : Cond.selects m_X12_bad.2.1.cls m_X12_bad.2.1 m_X12_bad.2.1 ∈ TB := tp_4 (q := (⟨"EncoresModel", "bad", "(I)Z"⟩, 35)) 13 rfl rfl
def m_X12_need : MD := (prog_14_method_30_code, ⟨"EncoresModel", "need", "(I)Z"⟩, 2, (some .boolean))
theorem km_X12_need : KM m_X12_need 1 := ⟨tb_6 171 rfl rfl, wi_EncoresModel, by decide +kernel, by decide +kernel⟩
theorem ki_X12_need : Cond.instanceMethod m_X12_need.2.1 ∈ TB := tb_6 170 rfl rfl
theorem kv_X12_need : Cond.selects m_X12_need.2.1.cls m_X12_need.2.1 m_X12_need.2.1 ∈ TB := tp_5 (q := (⟨"EncoresModel", "need", "(I)Z"⟩, 35)) 6 rfl rfl
def m_X12_lay : MD := (prog_14_method_31_code, ⟨"EncoresModel", "lay", "(II)V"⟩, 3, none)
theorem km_X12_lay : KM m_X12_lay 2 := ⟨tb_6 151 rfl rfl, wi_EncoresModel, by decide +kernel, by decide +kernel⟩
theorem ki_X12_lay : Cond.instanceMethod m_X12_lay.2.1 ∈ TB := tb_6 150 rfl rfl
theorem kv_X12_lay : Cond.selects m_X12_lay.2.1.cls m_X12_lay.2.1 m_X12_lay.2.1 ∈ TB := tp_5 (q := (⟨"EncoresModel", "lay", "(II)V"⟩, 35)) 1 rfl rfl
def m_X12_opens : MD := (prog_14_method_32_code, ⟨"EncoresModel", "opens", "()Z"⟩, 1, (some .boolean))
theorem km_X12_opens : KM m_X12_opens 0 := ⟨tb_6 167 rfl rfl, wi_EncoresModel, by decide +kernel, by decide +kernel⟩
theorem ki_X12_opens : Cond.instanceMethod m_X12_opens.2.1 ∈ TB := tb_6 166 rfl rfl
theorem kv_X12_opens : Cond.selects m_X12_opens.2.1.cls m_X12_opens.2.1 m_X12_opens.2.1 ∈ TB := tp_5 (q := (⟨"EncoresModel", "opens", "()Z"⟩, 35)) 5 rfl rfl
def m_X12_sumUp : MD := (prog_14_method_33_code, ⟨"EncoresModel", "sumUp", "()Z"⟩, 2, (some .boolean))
theorem km_X12_sumUp : KM m_X12_sumUp 0 := ⟨tb_6 139 rfl rfl, wi_EncoresModel, by decide +kernel, by decide +kernel⟩
theorem ki_X12_sumUp : Cond.instanceMethod m_X12_sumUp.2.1 ∈ TB := tb_6 138 rfl rfl
theorem kv_X12_sumUp : Cond.selects m_X12_sumUp.2.1.cls m_X12_sumUp.2.1 m_X12_sumUp.2.1 ∈ TB := tp_4 (q := (⟨"EncoresModel", "sumUp", "()Z"⟩, 35)) 14 rfl rfl
def m_X12_product : MD := (prog_14_method_34_code, ⟨"EncoresModel", "product", "()Z"⟩, 3, (some .boolean))
theorem km_X12_product : KM m_X12_product 0 := ⟨tb_6 143 rfl rfl, wi_EncoresModel, by decide +kernel, by decide +kernel⟩
theorem ki_X12_product : Cond.instanceMethod m_X12_product.2.1 ∈ TB := tb_6 142 rfl rfl
theorem kv_X12_product : Cond.selects m_X12_product.2.1.cls m_X12_product.2.1 m_X12_product.2.1 ∈ TB := tp_4 (q := (⟨"EncoresModel", "product", "()Z"⟩, 35)) 15 rfl rfl
def m_X12_unit : MD := (prog_14_method_35_code, ⟨"EncoresModel", "unit", "()Z"⟩, 2, (some .boolean))
theorem km_X12_unit : KM m_X12_unit 0 := ⟨tb_6 147 rfl rfl, wi_EncoresModel, by decide +kernel, by decide +kernel⟩
theorem ki_X12_unit : Cond.instanceMethod m_X12_unit.2.1 ∈ TB := tb_6 146 rfl rfl
theorem kv_X12_unit : Cond.selects m_X12_unit.2.1.cls m_X12_unit.2.1 m_X12_unit.2.1 ∈ TB := tp_5 (q := (⟨"EncoresModel", "unit", "()Z"⟩, 35)) 0 rfl rfl
def m_X12_any : MD := (prog_14_method_36_code, ⟨"EncoresModel", "any", "()Z"⟩, 1, (some .boolean))
theorem km_X12_any : KM m_X12_any 0 := ⟨tb_6 155 rfl rfl, wi_EncoresModel, by decide +kernel, by decide +kernel⟩
theorem ki_X12_any : Cond.instanceMethod m_X12_any.2.1 ∈ TB := tb_6 154 rfl rfl
theorem kv_X12_any : Cond.selects m_X12_any.2.1.cls m_X12_any.2.1 m_X12_any.2.1 ∈ TB := tp_5 (q := (⟨"EncoresModel", "any", "()Z"⟩, 35)) 2 rfl rfl
def m_X12_every : MD := (prog_14_method_37_code, ⟨"EncoresModel", "every", "()Z"⟩, 1, (some .boolean))
theorem km_X12_every : KM m_X12_every 0 := ⟨tb_6 159 rfl rfl, wi_EncoresModel, by decide +kernel, by decide +kernel⟩
theorem ki_X12_every : Cond.instanceMethod m_X12_every.2.1 ∈ TB := tb_6 158 rfl rfl
theorem kv_X12_every : Cond.selects m_X12_every.2.1.cls m_X12_every.2.1 m_X12_every.2.1 ∈ TB := tp_5 (q := (⟨"EncoresModel", "every", "()Z"⟩, 35)) 3 rfl rfl
def m_X12_oneTest : MD := (prog_14_method_38_code, ⟨"EncoresModel", "oneTest", "()Z"⟩, 2, (some .boolean))
theorem km_X12_oneTest : KM m_X12_oneTest 0 := ⟨tb_6 163 rfl rfl, wi_EncoresModel, by decide +kernel, by decide +kernel⟩
theorem ki_X12_oneTest : Cond.instanceMethod m_X12_oneTest.2.1 ∈ TB := tb_6 162 rfl rfl
theorem kv_X12_oneTest : Cond.selects m_X12_oneTest.2.1.cls m_X12_oneTest.2.1 m_X12_oneTest.2.1 ∈ TB := tp_5 (q := (⟨"EncoresModel", "oneTest", "()Z"⟩, 35)) 4 rfl rfl
def m_X12_aLine : MD := (prog_14_method_39_code, ⟨"EncoresModel", "aLine", "()Z"⟩, 1, (some .boolean))
theorem km_X12_aLine : KM m_X12_aLine 0 := ⟨tb_6 131 rfl rfl, wi_EncoresModel, by decide +kernel, by decide +kernel⟩
theorem ki_X12_aLine : Cond.instanceMethod m_X12_aLine.2.1 ∈ TB := tb_6 130 rfl rfl
theorem kv_X12_aLine : Cond.selects m_X12_aLine.2.1.cls m_X12_aLine.2.1 m_X12_aLine.2.1 ∈ TB := tp_4 (q := (⟨"EncoresModel", "aLine", "()Z"⟩, 35)) 12 rfl rfl
def m_X12_readsLaw : MD := (prog_14_method_40_code, ⟨"EncoresModel", "readsLaw", "()Z"⟩, 2, (some .boolean))
theorem km_X12_readsLaw : KM m_X12_readsLaw 0 := ⟨tb_6 127 rfl rfl, wi_EncoresModel, by decide +kernel, by decide +kernel⟩
theorem ki_X12_readsLaw : Cond.instanceMethod m_X12_readsLaw.2.1 ∈ TB := tb_6 126 rfl rfl
theorem kv_X12_readsLaw : Cond.selects m_X12_readsLaw.2.1.cls m_X12_readsLaw.2.1 m_X12_readsLaw.2.1 ∈ TB := tp_4 (q := (⟨"EncoresModel", "readsLaw", "()Z"⟩, 35)) 11 rfl rfl
def m_X12_number : MD := (prog_14_method_41_code, ⟨"EncoresModel", "number", "(III)Z"⟩, 4, (some .boolean))
theorem km_X12_number : KM m_X12_number 3 := ⟨tb_6 191 rfl rfl, wi_EncoresModel, by decide +kernel, by decide +kernel⟩
theorem ki_X12_number : Cond.instanceMethod m_X12_number.2.1 ∈ TB := tb_6 190 rfl rfl
theorem kv_X12_number : Cond.selects m_X12_number.2.1.cls m_X12_number.2.1 m_X12_number.2.1 ∈ TB := tp_5 (q := (⟨"EncoresModel", "number", "(III)Z"⟩, 35)) 11 rfl rfl
def m_X12_told : MD := (prog_14_method_42_code, ⟨"EncoresModel", "told", "(IIII)Z"⟩, 5, (some .boolean))
theorem km_X12_told : KM m_X12_told 4 := ⟨tb_6 195 rfl rfl, wi_EncoresModel, by decide +kernel, by decide +kernel⟩
theorem ki_X12_told : Cond.instanceMethod m_X12_told.2.1 ∈ TB := tb_6 194 rfl rfl
theorem kv_X12_told : Cond.selects m_X12_told.2.1.cls m_X12_told.2.1 m_X12_told.2.1 ∈ TB := tp_5 (q := (⟨"EncoresModel", "told", "(IIII)Z"⟩, 35)) 12 rfl rfl
def m_X12_aRule : MD := (prog_14_method_43_code, ⟨"EncoresModel", "aRule", "()Z"⟩, 3, (some .boolean))
theorem km_X12_aRule : KM m_X12_aRule 0 := ⟨tb_6 187 rfl rfl, wi_EncoresModel, by decide +kernel, by decide +kernel⟩
theorem ki_X12_aRule : Cond.instanceMethod m_X12_aRule.2.1 ∈ TB := tb_6 186 rfl rfl
theorem kv_X12_aRule : Cond.selects m_X12_aRule.2.1.cls m_X12_aRule.2.1 m_X12_aRule.2.1 ∈ TB := tp_5 (q := (⟨"EncoresModel", "aRule", "()Z"⟩, 35)) 10 rfl rfl
def m_X12_aPiece : MD := (prog_14_method_44_code, ⟨"EncoresModel", "aPiece", "()Z"⟩, 1, (some .boolean))
theorem km_X12_aPiece : KM m_X12_aPiece 0 := ⟨tb_6 199 rfl rfl, wi_EncoresModel, by decide +kernel, by decide +kernel⟩
theorem ki_X12_aPiece : Cond.instanceMethod m_X12_aPiece.2.1 ∈ TB := tb_6 198 rfl rfl
theorem kv_X12_aPiece : Cond.selects m_X12_aPiece.2.1.cls m_X12_aPiece.2.1 m_X12_aPiece.2.1 ∈ TB := tp_5 (q := (⟨"EncoresModel", "aPiece", "()Z"⟩, 35)) 13 rfl rfl
def m_X12_aSeat : MD := (prog_14_method_45_code, ⟨"EncoresModel", "aSeat", "()Z"⟩, 2, (some .boolean))
theorem km_X12_aSeat : KM m_X12_aSeat 0 := ⟨tb_6 203 rfl rfl, wi_EncoresModel, by decide +kernel, by decide +kernel⟩
theorem ki_X12_aSeat : Cond.instanceMethod m_X12_aSeat.2.1 ∈ TB := tb_6 202 rfl rfl
theorem kv_X12_aSeat : Cond.selects m_X12_aSeat.2.1.cls m_X12_aSeat.2.1 m_X12_aSeat.2.1 ∈ TB := tp_5 (q := (⟨"EncoresModel", "aSeat", "()Z"⟩, 35)) 14 rfl rfl
def m_X12_aRow : MD := (prog_14_method_46_code, ⟨"EncoresModel", "aRow", "()Z"⟩, 1, (some .boolean))
theorem km_X12_aRow : KM m_X12_aRow 0 := ⟨tb_6 183 rfl rfl, wi_EncoresModel, by decide +kernel, by decide +kernel⟩
theorem ki_X12_aRow : Cond.instanceMethod m_X12_aRow.2.1 ∈ TB := tb_6 182 rfl rfl
theorem kv_X12_aRow : Cond.selects m_X12_aRow.2.1.cls m_X12_aRow.2.1 m_X12_aRow.2.1 ∈ TB := tp_5 (q := (⟨"EncoresModel", "aRow", "()Z"⟩, 35)) 9 rfl rfl
def m_X12_begins : MD := (prog_14_method_47_code, ⟨"EncoresModel", "begins", "()Z"⟩, 1, (some .boolean))
theorem km_X12_begins : KM m_X12_begins 0 := ⟨tb_6 179 rfl rfl, wi_EncoresModel, by decide +kernel, by decide +kernel⟩
theorem ki_X12_begins : Cond.instanceMethod m_X12_begins.2.1 ∈ TB := tb_6 178 rfl rfl
theorem kv_X12_begins : Cond.selects m_X12_begins.2.1.cls m_X12_begins.2.1 m_X12_begins.2.1 ∈ TB := tp_5 (q := (⟨"EncoresModel", "begins", "()Z"⟩, 35)) 8 rfl rfl
def m_X12_readsRows : MD := (prog_14_method_48_code, ⟨"EncoresModel", "readsRows", "()Z"⟩, 2, (some .boolean))
theorem km_X12_readsRows : KM m_X12_readsRows 0 := ⟨tb_6 175 rfl rfl, wi_EncoresModel, by decide +kernel, by decide +kernel⟩
theorem ki_X12_readsRows : Cond.instanceMethod m_X12_readsRows.2.1 ∈ TB := tb_6 174 rfl rfl
theorem kv_X12_readsRows : Cond.selects m_X12_readsRows.2.1.cls m_X12_readsRows.2.1 m_X12_readsRows.2.1 ∈ TB := tp_5 (q := (⟨"EncoresModel", "readsRows", "()Z"⟩, 35)) 7 rfl rfl
def m_X12_putsLaw : MD := (prog_14_method_49_code, ⟨"EncoresModel", "putsLaw", "()I"⟩, 2, (some .int))
theorem km_X12_putsLaw : KM m_X12_putsLaw 0 := ⟨tb_6 211 rfl rfl, wi_EncoresModel, by decide +kernel, by decide +kernel⟩
theorem ki_X12_putsLaw : Cond.instanceMethod m_X12_putsLaw.2.1 ∈ TB := tb_6 210 rfl rfl
theorem kv_X12_putsLaw : Cond.selects m_X12_putsLaw.2.1.cls m_X12_putsLaw.2.1 m_X12_putsLaw.2.1 ∈ TB := tp_6 (q := (⟨"EncoresModel", "putsLaw", "()I"⟩, 35)) 0 rfl rfl
def m_X12_puts : MD := (prog_14_method_50_code, ⟨"EncoresModel", "puts", "(III)I"⟩, 5, (some .int))
theorem km_X12_puts : KM m_X12_puts 3 := ⟨tb_6 215 rfl rfl, wi_EncoresModel, by decide +kernel, by decide +kernel⟩
theorem ki_X12_puts : Cond.instanceMethod m_X12_puts.2.1 ∈ TB := tb_6 214 rfl rfl
theorem kv_X12_puts : Cond.selects m_X12_puts.2.1.cls m_X12_puts.2.1 m_X12_puts.2.1 ∈ TB := tp_6 (q := (⟨"EncoresModel", "puts", "(III)I"⟩, 35)) 1 rfl rfl
def m_X12_putsGallery : MD := (prog_14_method_51_code, ⟨"EncoresModel", "putsGallery", "()I"⟩, 2, (some .int))
theorem km_X12_putsGallery : KM m_X12_putsGallery 0 := ⟨tb_6 219 rfl rfl, wi_EncoresModel, by decide +kernel, by decide +kernel⟩
theorem ki_X12_putsGallery : Cond.instanceMethod m_X12_putsGallery.2.1 ∈ TB := tb_6 218 rfl rfl
theorem kv_X12_putsGallery : Cond.selects m_X12_putsGallery.2.1.cls m_X12_putsGallery.2.1 m_X12_putsGallery.2.1 ∈ TB := tp_6 (q := (⟨"EncoresModel", "putsGallery", "()I"⟩, 35)) 2 rfl rfl
def m_X12_putsText : MD := (prog_14_method_52_code, ⟨"EncoresModel", "putsText", "(I)I"⟩, 2, (some .int))
theorem km_X12_putsText : KM m_X12_putsText 1 := ⟨tb_6 207 rfl rfl, wi_EncoresModel, by decide +kernel, by decide +kernel⟩
theorem ki_X12_putsText : Cond.instanceMethod m_X12_putsText.2.1 ∈ TB := tb_6 206 rfl rfl
theorem kv_X12_putsText : Cond.selects m_X12_putsText.2.1.cls m_X12_putsText.2.1 m_X12_putsText.2.1 ∈ TB := tp_5 (q := (⟨"EncoresModel", "putsText", "(I)I"⟩, 35)) 15 rfl rfl
def m_X12_text : MD := (prog_14_method_53_code, ⟨"EncoresModel", "text", "(I)I"⟩, 3, (some .int))
theorem km_X12_text : KM m_X12_text 1 := ⟨tb_6 64 rfl rfl, wi_EncoresModel, by decide +kernel, by decide +kernel⟩
theorem ki_X12_text : Cond.instanceMethod m_X12_text.2.1 ∈ TB := tb_6 62 rfl rfl
theorem kv_X12_text : Cond.selects m_X12_text.2.1.cls m_X12_text.2.1 m_X12_text.2.1 ∈ TB := tb_6 63 rfl rfl
def m_X12_fault : MD := (prog_14_method_54_code, ⟨"EncoresModel", "fault", "(I)I"⟩, 2, (some .int))
theorem km_X12_fault : KM m_X12_fault 1 := ⟨tb_6 223 rfl rfl, wi_EncoresModel, by decide +kernel, by decide +kernel⟩
theorem ki_X12_fault : Cond.instanceMethod m_X12_fault.2.1 ∈ TB := tb_6 221 rfl rfl
theorem kv_X12_fault : Cond.selects m_X12_fault.2.1.cls m_X12_fault.2.1 m_X12_fault.2.1 ∈ TB := tb_6 222 rfl rfl
def m_X12_both : MD := (prog_14_method_55_code, ⟨"EncoresModel", "both", "(III)I"⟩, 3, (some .int))
theorem km_X12_both : KM m_X12_both 3 := ⟨tb_7 26 rfl rfl, wi_EncoresModel, by decide +kernel, by decide +kernel⟩
theorem ks_X12_both : Cond.static m_X12_both.2.1 ∈ TB := tb_7 25 rfl rfl
def m_X12_comesTo : MD := (prog_14_method_56_code, ⟨"EncoresModel", "comesTo", "(III)I"⟩, 8, (some .int))
theorem km_X12_comesTo : KM m_X12_comesTo 3 := ⟨tb_7 23 rfl rfl, wi_EncoresModel, by decide +kernel, by decide +kernel⟩
theorem ki_X12_comesTo : Cond.instanceMethod m_X12_comesTo.2.1 ∈ TB := tb_7 22 rfl rfl
theorem kv_X12_comesTo : Cond.selects m_X12_comesTo.2.1.cls m_X12_comesTo.2.1 m_X12_comesTo.2.1 ∈ TB := tp_6 (q := (⟨"EncoresModel", "comesTo", "(III)I"⟩, 35)) 10 rfl rfl
def m_X12_isSo : MD := (prog_14_method_57_code, ⟨"EncoresModel", "isSo", "(I)Z"⟩, 2, (some .boolean))
theorem km_X12_isSo : KM m_X12_isSo 1 := ⟨tb_7 19 rfl rfl, wi_EncoresModel, by decide +kernel, by decide +kernel⟩
theorem ki_X12_isSo : Cond.instanceMethod m_X12_isSo.2.1 ∈ TB := tb_7 18 rfl rfl
theorem kv_X12_isSo : Cond.selects m_X12_isSo.2.1.cls m_X12_isSo.2.1 m_X12_isSo.2.1 ∈ TB := tp_6 (q := (⟨"EncoresModel", "isSo", "(I)Z"⟩, 35)) 9 rfl rfl
def m_X12_says : MD := (prog_14_method_58_code, ⟨"EncoresModel", "says", "(III)I"⟩, 5, (some .int))
theorem km_X12_says : KM m_X12_says 3 := ⟨tb_7 15 rfl rfl, wi_EncoresModel, by decide +kernel, by decide +kernel⟩
theorem ki_X12_says : Cond.instanceMethod m_X12_says.2.1 ∈ TB := tb_7 14 rfl rfl
theorem kv_X12_says : Cond.selects m_X12_says.2.1.cls m_X12_says.2.1 m_X12_says.2.1 ∈ TB := tp_6 (q := (⟨"EncoresModel", "says", "(III)I"⟩, 35)) 8 rfl rfl
def m_X12_laysDeed : MD := (prog_14_method_59_code, ⟨"EncoresModel", "laysDeed", "(I)V"⟩, 3, none)
theorem km_X12_laysDeed : KM m_X12_laysDeed 1 := ⟨tb_7 11 rfl rfl, wi_EncoresModel, by decide +kernel, by decide +kernel⟩
theorem ki_X12_laysDeed : Cond.instanceMethod m_X12_laysDeed.2.1 ∈ TB := tb_7 10 rfl rfl
theorem kv_X12_laysDeed : Cond.selects m_X12_laysDeed.2.1.cls m_X12_laysDeed.2.1 m_X12_laysDeed.2.1 ∈ TB := tp_6 (q := (⟨"EncoresModel", "laysDeed", "(I)V"⟩, 35)) 7 rfl rfl
def m_X12_loudOf : MD := (prog_14_method_60_code, ⟨"EncoresModel", "loudOf", "(I)I"⟩, 2, (some .int))
theorem km_X12_loudOf : KM m_X12_loudOf 1 := ⟨tb_7 69 rfl rfl, wi_EncoresModel, by decide +kernel, by decide +kernel⟩
theorem ki_X12_loudOf : Cond.instanceMethod m_X12_loudOf.2.1 ∈ TB := tb_7 68 rfl rfl
theorem kv_X12_loudOf : Cond.selects m_X12_loudOf.2.1.cls m_X12_loudOf.2.1 m_X12_loudOf.2.1 ∈ TB := tp_7 (q := (⟨"EncoresModel", "loudOf", "(I)I"⟩, 35)) 2 rfl rfl
def m_X12_wearsOf : MD := (prog_14_method_61_code, ⟨"EncoresModel", "wearsOf", "(I)I"⟩, 2, (some .int))
theorem km_X12_wearsOf : KM m_X12_wearsOf 1 := ⟨tb_7 7 rfl rfl, wi_EncoresModel, by decide +kernel, by decide +kernel⟩
theorem ki_X12_wearsOf : Cond.instanceMethod m_X12_wearsOf.2.1 ∈ TB := tb_7 6 rfl rfl
theorem kv_X12_wearsOf : Cond.selects m_X12_wearsOf.2.1.cls m_X12_wearsOf.2.1 m_X12_wearsOf.2.1 ∈ TB := tp_6 (q := (⟨"EncoresModel", "wearsOf", "(I)I"⟩, 35)) 6 rfl rfl
def m_X12_clapOf : MD := (prog_14_method_62_code, ⟨"EncoresModel", "clapOf", "(III)I"⟩, 4, (some .int))
theorem km_X12_clapOf : KM m_X12_clapOf 3 := ⟨tb_7 61 rfl rfl, wi_EncoresModel, by decide +kernel, by decide +kernel⟩
theorem ki_X12_clapOf : Cond.instanceMethod m_X12_clapOf.2.1 ∈ TB := tb_7 60 rfl rfl
theorem kv_X12_clapOf : Cond.selects m_X12_clapOf.2.1.cls m_X12_clapOf.2.1 m_X12_clapOf.2.1 ∈ TB := tp_7 (q := (⟨"EncoresModel", "clapOf", "(III)I"⟩, 35)) 0 rfl rfl
def m_X12_handsAsked : MD := (prog_14_method_63_code, ⟨"EncoresModel", "handsAsked", "()I"⟩, 4, (some .int))
theorem km_X12_handsAsked : KM m_X12_handsAsked 0 := ⟨tb_7 81 rfl rfl, wi_EncoresModel, by decide +kernel, by decide +kernel⟩
theorem ki_X12_handsAsked : Cond.instanceMethod m_X12_handsAsked.2.1 ∈ TB := tb_7 80 rfl rfl
theorem kv_X12_handsAsked : Cond.selects m_X12_handsAsked.2.1.cls m_X12_handsAsked.2.1 m_X12_handsAsked.2.1 ∈ TB := tp_7 (q := (⟨"EncoresModel", "handsAsked", "()I"⟩, 35)) 5 rfl rfl
def m_X12_lastRule : MD := (prog_14_method_64_code, ⟨"EncoresModel", "lastRule", "(II)I"⟩, 5, (some .int))
theorem km_X12_lastRule : KM m_X12_lastRule 2 := ⟨tb_7 89 rfl rfl, wi_EncoresModel, by decide +kernel, by decide +kernel⟩
theorem ki_X12_lastRule : Cond.instanceMethod m_X12_lastRule.2.1 ∈ TB := tb_7 88 rfl rfl
theorem kv_X12_lastRule : Cond.selects m_X12_lastRule.2.1.cls m_X12_lastRule.2.1 m_X12_lastRule.2.1 ∈ TB := tp_7 (q := (⟨"EncoresModel", "lastRule", "(II)I"⟩, 35)) 7 rfl rfl
def m_X12_mostAgains : MD := (prog_14_method_65_code, ⟨"EncoresModel", "mostAgains", "()I"⟩, 1, (some .int))
theorem km_X12_mostAgains : KM m_X12_mostAgains 0 := ⟨tb_7 85 rfl rfl, wi_EncoresModel, by decide +kernel, by decide +kernel⟩
theorem ki_X12_mostAgains : Cond.instanceMethod m_X12_mostAgains.2.1 ∈ TB := tb_7 84 rfl rfl
theorem kv_X12_mostAgains : Cond.selects m_X12_mostAgains.2.1.cls m_X12_mostAgains.2.1 m_X12_mostAgains.2.1 ∈ TB := tp_7 (q := (⟨"EncoresModel", "mostAgains", "()I"⟩, 35)) 6 rfl rfl
def m_X12_endsAt : MD := (prog_14_method_66_code, ⟨"EncoresModel", "endsAt", "()I"⟩, 1, (some .int))
theorem km_X12_endsAt : KM m_X12_endsAt 0 := ⟨tb_7 93 rfl rfl, wi_EncoresModel, by decide +kernel, by decide +kernel⟩
theorem ki_X12_endsAt : Cond.instanceMethod m_X12_endsAt.2.1 ∈ TB := tb_7 92 rfl rfl
theorem kv_X12_endsAt : Cond.selects m_X12_endsAt.2.1.cls m_X12_endsAt.2.1 m_X12_endsAt.2.1 ∈ TB := tp_7 (q := (⟨"EncoresModel", "endsAt", "()I"⟩, 35)) 8 rfl rfl
def m_X12_countsAs : MD := (prog_14_method_67_code, ⟨"EncoresModel", "countsAs", "(I)I"⟩, 3, (some .int))
theorem km_X12_countsAs : KM m_X12_countsAs 1 := ⟨tb_7 77 rfl rfl, wi_EncoresModel, by decide +kernel, by decide +kernel⟩
theorem ki_X12_countsAs : Cond.instanceMethod m_X12_countsAs.2.1 ∈ TB := tb_7 76 rfl rfl
theorem kv_X12_countsAs : Cond.selects m_X12_countsAs.2.1.cls m_X12_countsAs.2.1 m_X12_countsAs.2.1 ∈ TB := tp_7 (q := (⟨"EncoresModel", "countsAs", "(I)I"⟩, 35)) 4 rfl rfl
def m_X12_keeps : MD := (prog_14_method_68_code, ⟨"EncoresModel", "keeps", "()V"⟩, 2, none)
theorem km_X12_keeps : KM m_X12_keeps 0 := ⟨tb_6 235 rfl rfl, wi_EncoresModel, by decide +kernel, by decide +kernel⟩
theorem ki_X12_keeps : Cond.instanceMethod m_X12_keeps.2.1 ∈ TB := tb_6 234 rfl rfl
theorem kv_X12_keeps : Cond.selects m_X12_keeps.2.1.cls m_X12_keeps.2.1 m_X12_keeps.2.1 ∈ TB := tp_6 (q := (⟨"EncoresModel", "keeps", "()V"⟩, 35)) 3 rfl rfl
def m_X12_undo : MD := (prog_14_method_69_code, ⟨"EncoresModel", "undo", "()Z"⟩, 2, (some .boolean))
theorem km_X12_undo : KM m_X12_undo 0 := ⟨tb_6 227 rfl rfl, wi_EncoresModel, by decide +kernel, by decide +kernel⟩
theorem ki_X12_undo : Cond.instanceMethod m_X12_undo.2.1 ∈ TB := tb_6 225 rfl rfl
theorem kv_X12_undo : Cond.selects m_X12_undo.2.1.cls m_X12_undo.2.1 m_X12_undo.2.1 ∈ TB := tb_6 226 rfl rfl
def m_X12_notes : MD := (prog_14_method_70_code, ⟨"EncoresModel", "notes", "(III)V"⟩, 5, none)
theorem km_X12_notes : KM m_X12_notes 3 := ⟨tb_7 65 rfl rfl, wi_EncoresModel, by decide +kernel, by decide +kernel⟩
theorem ki_X12_notes : Cond.instanceMethod m_X12_notes.2.1 ∈ TB := tb_7 64 rfl rfl
theorem kv_X12_notes : Cond.selects m_X12_notes.2.1.cls m_X12_notes.2.1 m_X12_notes.2.1 ∈ TB := tp_7 (q := (⟨"EncoresModel", "notes", "(III)V"⟩, 35)) 1 rfl rfl
def m_X12_begins0 : MD := (prog_14_method_71_code, ⟨"EncoresModel", "begins0", "(I)V"⟩, 3, none)
theorem km_X12_begins0 : KM m_X12_begins0 1 := ⟨tb_7 3 rfl rfl, wi_EncoresModel, by decide +kernel, by decide +kernel⟩
theorem ki_X12_begins0 : Cond.instanceMethod m_X12_begins0.2.1 ∈ TB := tb_7 2 rfl rfl
theorem kv_X12_begins0 : Cond.selects m_X12_begins0.2.1.cls m_X12_begins0.2.1 m_X12_begins0.2.1 ∈ TB := tp_6 (q := (⟨"EncoresModel", "begins0", "(I)V"⟩, 35)) 5 rfl rfl
def m_X12_aRound : MD := (prog_14_method_72_code, ⟨"EncoresModel", "aRound", "(I)Z"⟩, 4, (some .boolean))
theorem km_X12_aRound : KM m_X12_aRound 1 := ⟨tb_7 50 rfl rfl, wi_EncoresModel, by decide +kernel, by decide +kernel⟩
theorem ki_X12_aRound : Cond.instanceMethod m_X12_aRound.2.1 ∈ TB := tb_7 49 rfl rfl
theorem kv_X12_aRound : Cond.selects m_X12_aRound.2.1.cls m_X12_aRound.2.1 m_X12_aRound.2.1 ∈ TB := tp_6 (q := (⟨"EncoresModel", "aRound", "(I)Z"⟩, 35)) 14 rfl rfl
def m_X12_handsClapping : MD := (prog_14_method_73_code, ⟨"EncoresModel", "handsClapping", "()I"⟩, 3, (some .int))
theorem km_X12_handsClapping : KM m_X12_handsClapping 0 := ⟨tb_7 73 rfl rfl, wi_EncoresModel, by decide +kernel, by decide +kernel⟩
theorem ki_X12_handsClapping : Cond.instanceMethod m_X12_handsClapping.2.1 ∈ TB := tb_7 72 rfl rfl
theorem kv_X12_handsClapping : Cond.selects m_X12_handsClapping.2.1.cls m_X12_handsClapping.2.1 m_X12_handsClapping.2.1 ∈ TB := tp_7 (q := (⟨"EncoresModel", "handsClapping", "()I"⟩, 35)) 3 rfl rfl
def m_X12_claps : MD := (prog_14_method_74_code, ⟨"EncoresModel", "claps", "(I)V"⟩, 3, none)
theorem km_X12_claps : KM m_X12_claps 1 := ⟨tb_7 36 rfl rfl, wi_EncoresModel, by decide +kernel, by decide +kernel⟩
theorem ki_X12_claps : Cond.instanceMethod m_X12_claps.2.1 ∈ TB := tb_7 35 rfl rfl
theorem kv_X12_claps : Cond.selects m_X12_claps.2.1.cls m_X12_claps.2.1 m_X12_claps.2.1 ∈ TB := tp_6 (q := (⟨"EncoresModel", "claps", "(I)V"⟩, 35)) 11 rfl rfl
def m_X12_does : MD := (prog_14_method_75_code, ⟨"EncoresModel", "does", "(I)I"⟩, 3, (some .int))
theorem km_X12_does : KM m_X12_does 1 := ⟨tb_6 239 rfl rfl, wi_EncoresModel, by decide +kernel, by decide +kernel⟩
theorem ki_X12_does : Cond.instanceMethod m_X12_does.2.1 ∈ TB := tb_6 238 rfl rfl
theorem kv_X12_does : Cond.selects m_X12_does.2.1.cls m_X12_does.2.1 m_X12_does.2.1 ∈ TB := tp_6 (q := (⟨"EncoresModel", "does", "(I)I"⟩, 35)) 4 rfl rfl
def m_X12_perform : MD := (prog_14_method_76_code, ⟨"EncoresModel", "perform", "(I)I"⟩, 2, (some .int))
theorem km_X12_perform : KM m_X12_perform 1 := ⟨tb_6 231 rfl rfl, wi_EncoresModel, by decide +kernel, by decide +kernel⟩
theorem ki_X12_perform : Cond.instanceMethod m_X12_perform.2.1 ∈ TB := tb_6 229 rfl rfl
theorem kv_X12_perform : Cond.selects m_X12_perform.2.1.cls m_X12_perform.2.1 m_X12_perform.2.1 ∈ TB := tb_6 230 rfl rfl
def m_X12_pay : MD := (prog_14_method_77_code, ⟨"EncoresModel", "pay", "(II)Z"⟩, 3, (some .boolean))
theorem km_X12_pay : KM m_X12_pay 2 := ⟨tb_7 97 rfl rfl, wi_EncoresModel, by decide +kernel, by decide +kernel⟩
theorem ki_X12_pay : Cond.instanceMethod m_X12_pay.2.1 ∈ TB := tb_7 95 rfl rfl
theorem kv_X12_pay : Cond.selects m_X12_pay.2.1.cls m_X12_pay.2.1 m_X12_pay.2.1 ∈ TB := tb_7 96 rfl rfl
def m_X12_glove : MD := (prog_14_method_78_code, ⟨"EncoresModel", "glove", "(IZ)Z"⟩, 3, (some .boolean))
theorem km_X12_glove : KM m_X12_glove 2 := ⟨tb_7 101 rfl rfl, wi_EncoresModel, by decide +kernel, by decide +kernel⟩
theorem ki_X12_glove : Cond.instanceMethod m_X12_glove.2.1 ∈ TB := tb_7 99 rfl rfl
theorem kv_X12_glove : Cond.selects m_X12_glove.2.1.cls m_X12_glove.2.1 m_X12_glove.2.1 ∈ TB := tb_7 100 rfl rfl
def m_X12_let : MD := (prog_14_method_79_code, ⟨"EncoresModel", "let", "(IZ)Z"⟩, 3, (some .boolean))
theorem km_X12_let : KM m_X12_let 2 := ⟨tb_7 105 rfl rfl, wi_EncoresModel, by decide +kernel, by decide +kernel⟩
theorem ki_X12_let : Cond.instanceMethod m_X12_let.2.1 ∈ TB := tb_7 103 rfl rfl
theorem kv_X12_let : Cond.selects m_X12_let.2.1.cls m_X12_let.2.1 m_X12_let.2.1 ∈ TB := tb_7 104 rfl rfl
def m_X12_anEvening : MD := (prog_14_method_80_code, ⟨"EncoresModel", "anEvening", "()I"⟩, 3, (some .int))
theorem km_X12_anEvening : KM m_X12_anEvening 0 := ⟨tb_7 113 rfl rfl, wi_EncoresModel, by decide +kernel, by decide +kernel⟩
theorem ki_X12_anEvening : Cond.instanceMethod m_X12_anEvening.2.1 ∈ TB := tb_7 112 rfl rfl
theorem kv_X12_anEvening : Cond.selects m_X12_anEvening.2.1.cls m_X12_anEvening.2.1 m_X12_anEvening.2.1 ∈ TB := tp_7 (q := (⟨"EncoresModel", "anEvening", "()I"⟩, 35)) 9 rfl rfl
def m_X12_evenings : MD := (prog_14_method_81_code, ⟨"EncoresModel", "evenings", "(I)I"⟩, 4, (some .int))
theorem km_X12_evenings : KM m_X12_evenings 1 := ⟨tb_7 109 rfl rfl, wi_EncoresModel, by decide +kernel, by decide +kernel⟩
theorem ki_X12_evenings : Cond.instanceMethod m_X12_evenings.2.1 ∈ TB := tb_7 107 rfl rfl
theorem kv_X12_evenings : Cond.selects m_X12_evenings.2.1.cls m_X12_evenings.2.1 m_X12_evenings.2.1 ∈ TB := tb_7 108 rfl rfl
def m_X12_of : MD := (prog_14_method_82_code, ⟨"EncoresModel", "of", "(II)I"⟩, 3, (some .int))
theorem km_X12_of : KM m_X12_of 2 := ⟨tb_7 117 rfl rfl, wi_EncoresModel, by decide +kernel, by decide +kernel⟩
theorem ki_X12_of : Cond.instanceMethod m_X12_of.2.1 ∈ TB := tb_7 115 rfl rfl
theorem kv_X12_of : Cond.selects m_X12_of.2.1.cls m_X12_of.2.1 m_X12_of.2.1 ∈ TB := tb_7 116 rfl rfl
def m_X12_deedOf : MD := (prog_14_method_83_code, ⟨"EncoresModel", "deedOf", "(II)I"⟩, 3, (some .int))
theorem km_X12_deedOf : KM m_X12_deedOf 2 := ⟨tb_7 121 rfl rfl, wi_EncoresModel, by decide +kernel, by decide +kernel⟩
theorem ki_X12_deedOf : Cond.instanceMethod m_X12_deedOf.2.1 ∈ TB := tb_7 119 rfl rfl
theorem kv_X12_deedOf : Cond.selects m_X12_deedOf.2.1.cls m_X12_deedOf.2.1 m_X12_deedOf.2.1 ∈ TB := tb_7 120 rfl rfl
def m_X12_statute : MD := (prog_14_method_84_code, ⟨"EncoresModel", "statute", "(I)I"⟩, 2, (some .int))
theorem km_X12_statute : KM m_X12_statute 1 := ⟨tb_7 125 rfl rfl, wi_EncoresModel, by decide +kernel, by decide +kernel⟩
theorem ki_X12_statute : Cond.instanceMethod m_X12_statute.2.1 ∈ TB := tb_7 123 rfl rfl
theorem kv_X12_statute : Cond.selects m_X12_statute.2.1.cls m_X12_statute.2.1 m_X12_statute.2.1 ∈ TB := tb_7 124 rfl rfl
def m_X12_book : MD := (prog_14_method_85_code, ⟨"EncoresModel", "book", "(II)I"⟩, 3, (some .int))
theorem km_X12_book : KM m_X12_book 2 := ⟨tb_7 129 rfl rfl, wi_EncoresModel, by decide +kernel, by decide +kernel⟩
theorem ki_X12_book : Cond.instanceMethod m_X12_book.2.1 ∈ TB := tb_7 127 rfl rfl
theorem kv_X12_book : Cond.selects m_X12_book.2.1.cls m_X12_book.2.1 m_X12_book.2.1 ∈ TB := tb_7 128 rfl rfl
def m_X12_lays : MD := (prog_14_method_86_code, ⟨"EncoresModel", "lays", "()V"⟩, 2, none)
theorem km_X12_lays : KM m_X12_lays 0 := ⟨tb_7 138 rfl rfl, wi_EncoresModel, by decide +kernel, by decide +kernel⟩
theorem ki_X12_lays : Cond.instanceMethod m_X12_lays.2.1 ∈ TB := tb_7 137 rfl rfl
theorem kv_X12_lays : Cond.selects m_X12_lays.2.1.cls m_X12_lays.2.1 m_X12_lays.2.1 ∈ TB := tp_7 (q := (⟨"EncoresModel", "lays", "()V"⟩, 35)) 10 rfl rfl
def m_X12_putsBack : MD := (prog_14_method_87_code, ⟨"EncoresModel", "putsBack", "()V"⟩, 2, none)
theorem km_X12_putsBack : KM m_X12_putsBack 0 := ⟨tb_7 142 rfl rfl, wi_EncoresModel, by decide +kernel, by decide +kernel⟩
theorem ki_X12_putsBack : Cond.instanceMethod m_X12_putsBack.2.1 ∈ TB := tb_7 141 rfl rfl
theorem kv_X12_putsBack : Cond.selects m_X12_putsBack.2.1.cls m_X12_putsBack.2.1 m_X12_putsBack.2.1 ∈ TB := tp_7 (q := (⟨"EncoresModel", "putsBack", "()V"⟩, 35)) 11 rfl rfl
def m_X12_goes : MD := (prog_14_method_88_code, ⟨"EncoresModel", "goes", "(I)I"⟩, 3, (some .int))
theorem km_X12_goes : KM m_X12_goes 1 := ⟨tb_7 133 rfl rfl, wi_EncoresModel, by decide +kernel, by decide +kernel⟩
theorem ki_X12_goes : Cond.instanceMethod m_X12_goes.2.1 ∈ TB := tb_7 131 rfl rfl
theorem kv_X12_goes : Cond.selects m_X12_goes.2.1.cls m_X12_goes.2.1 m_X12_goes.2.1 ∈ TB := tb_7 132 rfl rfl
def m_X12_settles : MD := (prog_14_method_89_code, ⟨"EncoresModel", "settles", "(II)I"⟩, 3, (some .int))
theorem km_X12_settles : KM m_X12_settles 2 := ⟨tb_7 146 rfl rfl, wi_EncoresModel, by decide +kernel, by decide +kernel⟩
theorem ki_X12_settles : Cond.instanceMethod m_X12_settles.2.1 ∈ TB := tb_7 144 rfl rfl
theorem kv_X12_settles : Cond.selects m_X12_settles.2.1.cls m_X12_settles.2.1 m_X12_settles.2.1 ∈ TB := tb_7 145 rfl rfl
def m_X12_doneWithout : MD := (prog_14_method_90_code, ⟨"EncoresModel", "doneWithout", "(II)I"⟩, 4, (some .int))
theorem km_X12_doneWithout : KM m_X12_doneWithout 2 := ⟨tb_7 154 rfl rfl, wi_EncoresModel, by decide +kernel, by decide +kernel⟩
theorem ki_X12_doneWithout : Cond.instanceMethod m_X12_doneWithout.2.1 ∈ TB := tb_7 153 rfl rfl
theorem kv_X12_doneWithout : Cond.selects m_X12_doneWithout.2.1.cls m_X12_doneWithout.2.1 m_X12_doneWithout.2.1 ∈ TB := tp_7 (q := (⟨"EncoresModel", "doneWithout", "(II)I"⟩, 35)) 12 rfl rfl
def m_X12_makes : MD := (prog_14_method_91_code, ⟨"EncoresModel", "makes", "(III)I"⟩, 6, (some .int))
theorem km_X12_makes : KM m_X12_makes 3 := ⟨tb_7 150 rfl rfl, wi_EncoresModel, by decide +kernel, by decide +kernel⟩
theorem ki_X12_makes : Cond.instanceMethod m_X12_makes.2.1 ∈ TB := tb_7 148 rfl rfl
theorem kv_X12_makes : Cond.selects m_X12_makes.2.1.cls m_X12_makes.2.1 m_X12_makes.2.1 ∈ TB := tb_7 149 rfl rfl
def m_X12_doneWithGloves : MD := (prog_14_method_92_code, ⟨"EncoresModel", "doneWithGloves", "(II)I"⟩, 4, (some .int))
theorem km_X12_doneWithGloves : KM m_X12_doneWithGloves 2 := ⟨tb_7 162 rfl rfl, wi_EncoresModel, by decide +kernel, by decide +kernel⟩
theorem ki_X12_doneWithGloves : Cond.instanceMethod m_X12_doneWithGloves.2.1 ∈ TB := tb_7 161 rfl rfl
theorem kv_X12_doneWithGloves : Cond.selects m_X12_doneWithGloves.2.1.cls m_X12_doneWithGloves.2.1 m_X12_doneWithGloves.2.1 ∈ TB := tp_7 (q := (⟨"EncoresModel", "doneWithGloves", "(II)I"⟩, 35)) 13 rfl rfl
def m_X12_brakes : MD := (prog_14_method_93_code, ⟨"EncoresModel", "brakes", "(II)I"⟩, 6, (some .int))
theorem km_X12_brakes : KM m_X12_brakes 2 := ⟨tb_7 158 rfl rfl, wi_EncoresModel, by decide +kernel, by decide +kernel⟩
theorem ki_X12_brakes : Cond.instanceMethod m_X12_brakes.2.1 ∈ TB := tb_7 156 rfl rfl
theorem kv_X12_brakes : Cond.selects m_X12_brakes.2.1.cls m_X12_brakes.2.1 m_X12_brakes.2.1 ∈ TB := tb_7 157 rfl rfl
def m_X12_eager : MD := (prog_14_method_94_code, ⟨"EncoresModel", "eager", "(II)I"⟩, 5, (some .int))
theorem km_X12_eager : KM m_X12_eager 2 := ⟨tb_7 166 rfl rfl, wi_EncoresModel, by decide +kernel, by decide +kernel⟩
theorem ki_X12_eager : Cond.instanceMethod m_X12_eager.2.1 ∈ TB := tb_7 164 rfl rfl
theorem kv_X12_eager : Cond.selects m_X12_eager.2.1.cls m_X12_eager.2.1 m_X12_eager.2.1 ∈ TB := tb_7 165 rfl rfl
def m_X12_price : MD := (prog_14_method_95_code, ⟨"EncoresModel", "price", "(II)I"⟩, 6, (some .int))
theorem km_X12_price : KM m_X12_price 2 := ⟨tb_7 170 rfl rfl, wi_EncoresModel, by decide +kernel, by decide +kernel⟩
theorem ki_X12_price : Cond.instanceMethod m_X12_price.2.1 ∈ TB := tb_7 168 rfl rfl
theorem kv_X12_price : Cond.selects m_X12_price.2.1.cls m_X12_price.2.1 m_X12_price.2.1 ∈ TB := tb_7 169 rfl rfl
def m_X12_gain : MD := (prog_14_method_96_code, ⟨"EncoresModel", "gain", "(I)I"⟩, 5, (some .int))
theorem km_X12_gain : KM m_X12_gain 1 := ⟨tb_7 174 rfl rfl, wi_EncoresModel, by decide +kernel, by decide +kernel⟩
theorem ki_X12_gain : Cond.instanceMethod m_X12_gain.2.1 ∈ TB := tb_7 172 rfl rfl
theorem kv_X12_gain : Cond.selects m_X12_gain.2.1.cls m_X12_gain.2.1 m_X12_gain.2.1 ∈ TB := tb_7 173 rfl rfl
def m_X12_tires : MD := (prog_14_method_97_code, ⟨"EncoresModel", "tires", "(I)I"⟩, 3, (some .int))
theorem km_X12_tires : KM m_X12_tires 1 := ⟨tb_7 179 rfl rfl, wi_EncoresModel, by decide +kernel, by decide +kernel⟩
theorem ki_X12_tires : Cond.instanceMethod m_X12_tires.2.1 ∈ TB := tb_7 177 rfl rfl
theorem kv_X12_tires : Cond.selects m_X12_tires.2.1.cls m_X12_tires.2.1 m_X12_tires.2.1 ∈ TB := tb_7 178 rfl rfl
def m_X12_longOf : MD := (prog_14_method_98_code, ⟨"EncoresModel", "longOf", "(I)I"⟩, 4, (some .int))
theorem km_X12_longOf : KM m_X12_longOf 1 := ⟨tb_7 187 rfl rfl, wi_EncoresModel, by decide +kernel, by decide +kernel⟩
theorem ki_X12_longOf : Cond.instanceMethod m_X12_longOf.2.1 ∈ TB := tb_7 186 rfl rfl
theorem kv_X12_longOf : Cond.selects m_X12_longOf.2.1.cls m_X12_longOf.2.1 m_X12_longOf.2.1 ∈ TB := tp_7 (q := (⟨"EncoresModel", "longOf", "(I)I"⟩, 35)) 14 rfl rfl
def m_X12_worthOf : MD := (prog_14_method_99_code, ⟨"EncoresModel", "worthOf", "(I)I"⟩, 4, (some .int))
theorem km_X12_worthOf : KM m_X12_worthOf 1 := ⟨tb_7 191 rfl rfl, wi_EncoresModel, by decide +kernel, by decide +kernel⟩
theorem ki_X12_worthOf : Cond.instanceMethod m_X12_worthOf.2.1 ∈ TB := tb_7 190 rfl rfl
theorem kv_X12_worthOf : Cond.selects m_X12_worthOf.2.1.cls m_X12_worthOf.2.1 m_X12_worthOf.2.1 ∈ TB := tp_7 (q := (⟨"EncoresModel", "worthOf", "(I)I"⟩, 35)) 15 rfl rfl
def m_X12_fills : MD := (prog_14_method_100_code, ⟨"EncoresModel", "fills", "(II)I"⟩, 5, (some .int))
theorem km_X12_fills : KM m_X12_fills 2 := ⟨tb_7 183 rfl rfl, wi_EncoresModel, by decide +kernel, by decide +kernel⟩
theorem ki_X12_fills : Cond.instanceMethod m_X12_fills.2.1 ∈ TB := tb_7 181 rfl rfl
theorem kv_X12_fills : Cond.selects m_X12_fills.2.1.cls m_X12_fills.2.1 m_X12_fills.2.1 ∈ TB := tb_7 182 rfl rfl
def m_X12_bargain : MD := (prog_14_method_101_code, ⟨"EncoresModel", "bargain", "(I)I"⟩, 4, (some .int))
theorem km_X12_bargain : KM m_X12_bargain 1 := ⟨tb_7 195 rfl rfl, wi_EncoresModel, by decide +kernel, by decide +kernel⟩
theorem ki_X12_bargain : Cond.instanceMethod m_X12_bargain.2.1 ∈ TB := tb_7 193 rfl rfl
theorem kv_X12_bargain : Cond.selects m_X12_bargain.2.1.cls m_X12_bargain.2.1 m_X12_bargain.2.1 ∈ TB := tb_7 194 rfl rfl
def m_X12_calm : MD := (prog_14_method_102_code, ⟨"EncoresModel", "calm", "(I)I"⟩, 5, (some .int))
theorem km_X12_calm : KM m_X12_calm 1 := ⟨tb_7 199 rfl rfl, wi_EncoresModel, by decide +kernel, by decide +kernel⟩
theorem ki_X12_calm : Cond.instanceMethod m_X12_calm.2.1 ∈ TB := tb_7 197 rfl rfl
theorem kv_X12_calm : Cond.selects m_X12_calm.2.1.cls m_X12_calm.2.1 m_X12_calm.2.1 ∈ TB := tb_7 198 rfl rfl
def m_X12_laysLines : MD := (prog_14_method_103_code, ⟨"EncoresModel", "laysLines", "()V"⟩, 3, none)
theorem km_X12_laysLines : KM m_X12_laysLines 0 := ⟨tb_7 207 rfl rfl, wi_EncoresModel, by decide +kernel, by decide +kernel⟩
theorem ki_X12_laysLines : Cond.instanceMethod m_X12_laysLines.2.1 ∈ TB := tb_7 206 rfl rfl
theorem kv_X12_laysLines : Cond.selects m_X12_laysLines.2.1.cls m_X12_laysLines.2.1 m_X12_laysLines.2.1 ∈ TB := tp_8 (q := (⟨"EncoresModel", "laysLines", "()V"⟩, 35)) 0 rfl rfl
def m_X12_leastWith : MD := (prog_14_method_104_code, ⟨"EncoresModel", "leastWith", "(II)I"⟩, 3, (some .int))
theorem km_X12_leastWith : KM m_X12_leastWith 2 := ⟨tb_7 212 rfl rfl, wi_EncoresModel, by decide +kernel, by decide +kernel⟩
theorem ki_X12_leastWith : Cond.instanceMethod m_X12_leastWith.2.1 ∈ TB := tb_7 211 rfl rfl
theorem kv_X12_leastWith : Cond.selects m_X12_leastWith.2.1.cls m_X12_leastWith.2.1 m_X12_leastWith.2.1 ∈ TB := tp_8 (q := (⟨"EncoresModel", "leastWith", "(II)I"⟩, 35)) 1 rfl rfl
def m_X12_lines : MD := (prog_14_method_105_code, ⟨"EncoresModel", "lines", "(II)I"⟩, 4, (some .int))
theorem km_X12_lines : KM m_X12_lines 2 := ⟨tb_7 203 rfl rfl, wi_EncoresModel, by decide +kernel, by decide +kernel⟩
theorem ki_X12_lines : Cond.instanceMethod m_X12_lines.2.1 ∈ TB := tb_7 201 rfl rfl
theorem kv_X12_lines : Cond.selects m_X12_lines.2.1.cls m_X12_lines.2.1 m_X12_lines.2.1 ∈ TB := tb_7 202 rfl rfl
def m_X12_claque : MD := (prog_14_method_106_code, ⟨"EncoresModel", "claque", "(II)I"⟩, 3, (some .int))
theorem km_X12_claque : KM m_X12_claque 2 := ⟨tb_7 216 rfl rfl, wi_EncoresModel, by decide +kernel, by decide +kernel⟩
theorem ki_X12_claque : Cond.instanceMethod m_X12_claque.2.1 ∈ TB := tb_7 214 rfl rfl
theorem kv_X12_claque : Cond.selects m_X12_claque.2.1.cls m_X12_claque.2.1 m_X12_claque.2.1 ∈ TB := tb_7 215 rfl rfl
def m_X12_couldBe : MD := (prog_14_method_107_code, ⟨"EncoresModel", "couldBe", "(I)Z"⟩, 3, (some .boolean))
theorem km_X12_couldBe : KM m_X12_couldBe 1 := ⟨tb_7 228 rfl rfl, wi_EncoresModel, by decide +kernel, by decide +kernel⟩
theorem ki_X12_couldBe : Cond.instanceMethod m_X12_couldBe.2.1 ∈ TB := tb_7 227 rfl rfl
theorem kv_X12_couldBe : Cond.selects m_X12_couldBe.2.1.cls m_X12_couldBe.2.1 m_X12_couldBe.2.1 ∈ TB := tp_8 (q := (⟨"EncoresModel", "couldBe", "(I)Z"⟩, 35)) 3 rfl rfl
def m_X12_bestAsked : MD := (prog_14_method_108_code, ⟨"EncoresModel", "bestAsked", "(I)I"⟩, 4, (some .int))
theorem km_X12_bestAsked : KM m_X12_bestAsked 1 := ⟨tb_7 232 rfl rfl, wi_EncoresModel, by decide +kernel, by decide +kernel⟩
theorem ki_X12_bestAsked : Cond.instanceMethod m_X12_bestAsked.2.1 ∈ TB := tb_7 231 rfl rfl
theorem kv_X12_bestAsked : Cond.selects m_X12_bestAsked.2.1.cls m_X12_bestAsked.2.1 m_X12_bestAsked.2.1 ∈ TB := tp_8 (q := (⟨"EncoresModel", "bestAsked", "(I)I"⟩, 35)) 4 rfl rfl
def m_X12_fits : MD := (prog_14_method_109_code, ⟨"EncoresModel", "fits", "(I)I"⟩, 7, (some .int))
theorem km_X12_fits : KM m_X12_fits 1 := ⟨tb_7 224 rfl rfl, wi_EncoresModel, by decide +kernel, by decide +kernel⟩
theorem ki_X12_fits : Cond.instanceMethod m_X12_fits.2.1 ∈ TB := tb_7 222 rfl rfl
theorem kv_X12_fits : Cond.selects m_X12_fits.2.1.cls m_X12_fits.2.1 m_X12_fits.2.1 ∈ TB := tb_7 223 rfl rfl
def m_X12_nearTo : MD := (prog_14_method_110_code, ⟨"EncoresModel", "nearTo", "(III)I"⟩, 8, (some .int))
theorem km_X12_nearTo : KM m_X12_nearTo 3 := ⟨tb_8 0 rfl rfl, wi_EncoresModel, by decide +kernel, by decide +kernel⟩
theorem ki_X12_nearTo : Cond.instanceMethod m_X12_nearTo.2.1 ∈ TB := tb_7 239 rfl rfl
theorem kv_X12_nearTo : Cond.selects m_X12_nearTo.2.1.cls m_X12_nearTo.2.1 m_X12_nearTo.2.1 ∈ TB := tp_8 (q := (⟨"EncoresModel", "nearTo", "(III)I"⟩, 35)) 5 rfl rfl
def m_X12_near : MD := (prog_14_method_111_code, ⟨"EncoresModel", "near", "(II)I"⟩, 3, (some .int))
theorem km_X12_near : KM m_X12_near 2 := ⟨tb_7 236 rfl rfl, wi_EncoresModel, by decide +kernel, by decide +kernel⟩
theorem ki_X12_near : Cond.instanceMethod m_X12_near.2.1 ∈ TB := tb_7 234 rfl rfl
theorem kv_X12_near : Cond.selects m_X12_near.2.1.cls m_X12_near.2.1 m_X12_near.2.1 ∈ TB := tb_7 235 rfl rfl
def m_X12_cuts : MD := (prog_14_method_112_code, ⟨"EncoresModel", "cuts", "(III)I"⟩, 7, (some .int))
theorem km_X12_cuts : KM m_X12_cuts 3 := ⟨tb_8 4 rfl rfl, wi_EncoresModel, by decide +kernel, by decide +kernel⟩
theorem ki_X12_cuts : Cond.instanceMethod m_X12_cuts.2.1 ∈ TB := tb_8 2 rfl rfl
theorem kv_X12_cuts : Cond.selects m_X12_cuts.2.1.cls m_X12_cuts.2.1 m_X12_cuts.2.1 ∈ TB := tb_8 3 rfl rfl
def m_X12_groups : MD := (prog_14_method_113_code, ⟨"EncoresModel", "groups", "(I)I"⟩, 7, (some .int))
theorem km_X12_groups : KM m_X12_groups 1 := ⟨tb_8 8 rfl rfl, wi_EncoresModel, by decide +kernel, by decide +kernel⟩
theorem ki_X12_groups : Cond.instanceMethod m_X12_groups.2.1 ∈ TB := tb_8 6 rfl rfl
theorem kv_X12_groups : Cond.selects m_X12_groups.2.1.cls m_X12_groups.2.1 m_X12_groups.2.1 ∈ TB := tb_8 7 rfl rfl
def m_X12_means : MD := (prog_14_method_114_code, ⟨"EncoresModel", "means", "(II)Z"⟩, 3, (some .boolean))
theorem km_X12_means : KM m_X12_means 2 := ⟨tb_8 12 rfl rfl, wi_EncoresModel, by decide +kernel, by decide +kernel⟩
theorem ki_X12_means : Cond.instanceMethod m_X12_means.2.1 ∈ TB := tb_8 10 rfl rfl
theorem kv_X12_means : Cond.selects m_X12_means.2.1.cls m_X12_means.2.1 m_X12_means.2.1 ∈ TB := tb_8 11 rfl rfl
def m_X12_passedBy : MD := (prog_14_method_115_code, ⟨"EncoresModel", "passedBy", "(II)I"⟩, 5, (some .int))
theorem km_X12_passedBy : KM m_X12_passedBy 2 := ⟨tb_8 20 rfl rfl, wi_EncoresModel, by decide +kernel, by decide +kernel⟩
theorem ki_X12_passedBy : Cond.instanceMethod m_X12_passedBy.2.1 ∈ TB := tb_8 19 rfl rfl
theorem kv_X12_passedBy : Cond.selects m_X12_passedBy.2.1.cls m_X12_passedBy.2.1 m_X12_passedBy.2.1 ∈ TB := tp_8 (q := (⟨"EncoresModel", "passedBy", "(II)I"⟩, 35)) 6 rfl rfl
def m_X12_wasThere : MD := (prog_14_method_116_code, ⟨"EncoresModel", "wasThere", "(II)I"⟩, 4, (some .int))
theorem km_X12_wasThere : KM m_X12_wasThere 2 := ⟨tb_8 24 rfl rfl, wi_EncoresModel, by decide +kernel, by decide +kernel⟩
theorem ki_X12_wasThere : Cond.instanceMethod m_X12_wasThere.2.1 ∈ TB := tb_8 23 rfl rfl
theorem kv_X12_wasThere : Cond.selects m_X12_wasThere.2.1.cls m_X12_wasThere.2.1 m_X12_wasThere.2.1 ∈ TB := tp_8 (q := (⟨"EncoresModel", "wasThere", "(II)I"⟩, 35)) 7 rfl rfl
def m_X12_passed : MD := (prog_14_method_117_code, ⟨"EncoresModel", "passed", "(III)I"⟩, 5, (some .int))
theorem km_X12_passed : KM m_X12_passed 3 := ⟨tb_8 16 rfl rfl, wi_EncoresModel, by decide +kernel, by decide +kernel⟩
theorem ki_X12_passed : Cond.instanceMethod m_X12_passed.2.1 ∈ TB := tb_8 14 rfl rfl
theorem kv_X12_passed : Cond.selects m_X12_passed.2.1.cls m_X12_passed.2.1 m_X12_passed.2.1 ∈ TB := tb_8 15 rfl rfl
def m_X12_weightOf : MD := (prog_14_method_118_code, ⟨"EncoresModel", "weightOf", "(I)I"⟩, 2, (some .int))
theorem km_X12_weightOf : KM m_X12_weightOf 1 := ⟨tb_8 36 rfl rfl, wi_EncoresModel, by decide +kernel, by decide +kernel⟩
theorem ki_X12_weightOf : Cond.instanceMethod m_X12_weightOf.2.1 ∈ TB := tb_8 35 rfl rfl
theorem kv_X12_weightOf : Cond.selects m_X12_weightOf.2.1.cls m_X12_weightOf.2.1 m_X12_weightOf.2.1 ∈ TB := tp_8 (q := (⟨"EncoresModel", "weightOf", "(I)I"⟩, 35)) 9 rfl rfl
def m_X12_allWeights : MD := (prog_14_method_119_code, ⟨"EncoresModel", "allWeights", "()I"⟩, 3, (some .int))
theorem km_X12_allWeights : KM m_X12_allWeights 0 := ⟨tb_8 32 rfl rfl, wi_EncoresModel, by decide +kernel, by decide +kernel⟩
theorem ki_X12_allWeights : Cond.instanceMethod m_X12_allWeights.2.1 ∈ TB := tb_8 31 rfl rfl
theorem kv_X12_allWeights : Cond.selects m_X12_allWeights.2.1.cls m_X12_allWeights.2.1 m_X12_allWeights.2.1 ∈ TB := tp_8 (q := (⟨"EncoresModel", "allWeights", "()I"⟩, 35)) 8 rfl rfl
def m_X12_share : MD := (prog_14_method_120_code, ⟨"EncoresModel", "share", "(II)I"⟩, 8, (some .int))
theorem km_X12_share : KM m_X12_share 2 := ⟨tb_8 28 rfl rfl, wi_EncoresModel, by decide +kernel, by decide +kernel⟩
theorem ki_X12_share : Cond.instanceMethod m_X12_share.2.1 ∈ TB := tb_8 26 rfl rfl
theorem kv_X12_share : Cond.selects m_X12_share.2.1.cls m_X12_share.2.1 m_X12_share.2.1 ∈ TB := tb_8 27 rfl rfl
def m_X12_paidOnes : MD := (prog_14_method_121_code, ⟨"EncoresModel", "paidOnes", "()I"⟩, 3, (some .int))
theorem km_X12_paidOnes : KM m_X12_paidOnes 0 := ⟨tb_8 44 rfl rfl, wi_EncoresModel, by decide +kernel, by decide +kernel⟩
theorem ki_X12_paidOnes : Cond.instanceMethod m_X12_paidOnes.2.1 ∈ TB := tb_8 43 rfl rfl
theorem kv_X12_paidOnes : Cond.selects m_X12_paidOnes.2.1.cls m_X12_paidOnes.2.1 m_X12_paidOnes.2.1 ∈ TB := tp_8 (q := (⟨"EncoresModel", "paidOnes", "()I"⟩, 35)) 10 rfl rfl
def m_X12_brides : MD := (prog_14_method_122_code, ⟨"EncoresModel", "brides", "()I"⟩, 6, (some .int))
theorem km_X12_brides : KM m_X12_brides 0 := ⟨tb_8 40 rfl rfl, wi_EncoresModel, by decide +kernel, by decide +kernel⟩
theorem ki_X12_brides : Cond.instanceMethod m_X12_brides.2.1 ∈ TB := tb_8 38 rfl rfl
theorem kv_X12_brides : Cond.selects m_X12_brides.2.1.cls m_X12_brides.2.1 m_X12_brides.2.1 ∈ TB := tb_8 39 rfl rfl
def m_X12_laysNims : MD := (prog_14_method_123_code, ⟨"EncoresModel", "laysNims", "()V"⟩, 3, none)
theorem km_X12_laysNims : KM m_X12_laysNims 0 := ⟨tb_8 53 rfl rfl, wi_EncoresModel, by decide +kernel, by decide +kernel⟩
theorem ki_X12_laysNims : Cond.instanceMethod m_X12_laysNims.2.1 ∈ TB := tb_8 52 rfl rfl
theorem kv_X12_laysNims : Cond.selects m_X12_laysNims.2.1.cls m_X12_laysNims.2.1 m_X12_laysNims.2.1 ∈ TB := tp_8 (q := (⟨"EncoresModel", "laysNims", "()V"⟩, 35)) 11 rfl rfl
def m_X12_game : MD := (prog_14_method_124_code, ⟨"EncoresModel", "game", "(I)I"⟩, 6, (some .int))
theorem km_X12_game : KM m_X12_game 1 := ⟨tb_8 49 rfl rfl, wi_EncoresModel, by decide +kernel, by decide +kernel⟩
theorem ki_X12_game : Cond.instanceMethod m_X12_game.2.1 ∈ TB := tb_8 47 rfl rfl
theorem kv_X12_game : Cond.selects m_X12_game.2.1.cls m_X12_game.2.1 m_X12_game.2.1 ∈ TB := tb_8 48 rfl rfl
def m_X12_image : MD := (prog_14_method_125_code, ⟨"EncoresModel", "image", "(Z)Z"⟩, 3, (some .boolean))
theorem km_X12_image : KM m_X12_image 1 := ⟨tb_8 57 rfl rfl, wi_EncoresModel, by decide +kernel, by decide +kernel⟩
theorem ki_X12_image : Cond.instanceMethod m_X12_image.2.1 ∈ TB := tb_8 55 rfl rfl
theorem kv_X12_image : Cond.selects m_X12_image.2.1.cls m_X12_image.2.1 m_X12_image.2.1 ∈ TB := tb_8 56 rfl rfl
def m_X12_look : MD := (prog_14_method_126_code, ⟨"EncoresModel", "look", "(I)I"⟩, 2, (some .int))
theorem km_X12_look : KM m_X12_look 1 := ⟨tb_8 61 rfl rfl, wi_EncoresModel, by decide +kernel, by decide +kernel⟩
theorem ki_X12_look : Cond.instanceMethod m_X12_look.2.1 ∈ TB := tb_8 59 rfl rfl
theorem kv_X12_look : Cond.selects m_X12_look.2.1.cls m_X12_look.2.1 m_X12_look.2.1 ∈ TB := tb_8 60 rfl rfl
def m_J6_bitCount_0f7a4 : MD := (prog_15_method_49_code, ⟨"java/lang/Integer", "bitCount", "(I)I"⟩, 1, (some .int))
theorem km_J6_bitCount_0f7a4 : KM m_J6_bitCount_0f7a4 1 := ⟨tb_3 56 rfl rfl, wi_java_lang_Integer, by decide +kernel, by decide +kernel⟩
theorem ks_J6_bitCount_0f7a4 : Cond.static m_J6_bitCount_0f7a4.2.1 ∈ TB := tb_3 55 rfl rfl
def m_J0_length_8abf5 : MD := (prog_17_method_54_code, ⟨"java/lang/String", "length", "()I"⟩, 1, (some .int))
theorem km_J0_length_8abf5 : KM m_J0_length_8abf5 0 := ⟨tb_3 195 rfl rfl, wi_java_lang_String, by decide +kernel, by decide +kernel⟩
theorem ki_J0_length_8abf5 : Cond.instanceMethod m_J0_length_8abf5.2.1 ∈ TB := tb_3 193 rfl rfl
theorem kv_J0_length_8abf5 : Cond.selects m_J0_length_8abf5.2.1.cls m_J0_length_8abf5.2.1 m_J0_length_8abf5.2.1 ∈ TB := tb_3 194 rfl rfl
def m_J0_charAt_5068e : MD := (prog_17_method_56_code, ⟨"java/lang/String", "charAt", "(I)C"⟩, 2, (some .char))
theorem km_J0_charAt_5068e : KM m_J0_charAt_5068e 1 := ⟨tb_3 205 rfl rfl, wi_java_lang_String, by decide +kernel, by decide +kernel⟩
theorem ki_J0_charAt_5068e : Cond.instanceMethod m_J0_charAt_5068e.2.1 ∈ TB := tb_3 203 rfl rfl
theorem kv_J0_charAt_5068e : Cond.selects m_J0_charAt_5068e.2.1.cls m_J0_charAt_5068e.2.1 m_J0_charAt_5068e.2.1 ∈ TB := tb_3 204 rfl rfl
def m_J0_coder_7d493 : MD := (prog_17_method_152_code, ⟨"java/lang/String", "coder", "()B"⟩, 1, (some .byte))
theorem km_J0_coder_7d493 : KM m_J0_coder_7d493 0 := ⟨tb_3 199 rfl rfl, wi_java_lang_String, by decide +kernel, by decide +kernel⟩
theorem ki_J0_coder_7d493 : Cond.instanceMethod m_J0_coder_7d493.2.1 ∈ TB := tb_3 197 rfl rfl
theorem kv_J0_coder_7d493 : Cond.selects m_J0_coder_7d493.2.1.cls m_J0_coder_7d493.2.1 m_J0_coder_7d493.2.1 ∈ TB := tb_3 198 rfl rfl
def m_J0_isLatin1_aae02 : MD := (prog_17_method_154_code, ⟨"java/lang/String", "isLatin1", "()Z"⟩, 1, (some .boolean))
theorem km_J0_isLatin1_aae02 : KM m_J0_isLatin1_aae02 0 := ⟨tb_3 209 rfl rfl, wi_java_lang_String, by decide +kernel, by decide +kernel⟩
theorem ki_J0_isLatin1_aae02 : Cond.instanceMethod m_J0_isLatin1_aae02.2.1 ∈ TB := tb_3 207 rfl rfl
theorem kv_J0_isLatin1_aae02 : Cond.selects m_J0_isLatin1_aae02.2.1.cls m_J0_isLatin1_aae02.2.1 m_J0_isLatin1_aae02.2.1 ∈ TB := tb_3 208 rfl rfl
def m_J0_checkIndex_df160 : MD := (prog_17_method_155_code, ⟨"java/lang/String", "checkIndex", "(II)V"⟩, 2, none)
theorem km_J0_checkIndex_df160 : KM m_J0_checkIndex_df160 2 := ⟨tb_3 215 rfl rfl, wi_java_lang_String, by decide +kernel, by decide +kernel⟩
theorem ks_J0_checkIndex_df160 : Cond.static m_J0_checkIndex_df160.2.1 ∈ TB := tb_3 214 rfl rfl
def m_J1_charAt_3b067 : MD := (prog_18_method_2_code, ⟨"java/lang/StringLatin1", "charAt", "([BI)C"⟩, 2, (some .char))
theorem km_J1_charAt_3b067 : KM m_J1_charAt_3b067 2 := ⟨tb_3 212 rfl rfl, wi_java_lang_StringLatin1, by decide +kernel, by decide +kernel⟩
theorem ks_J1_charAt_3b067 : Cond.static m_J1_charAt_3b067.2.1 ∈ TB := tb_3 211 rfl rfl
def m_J2_getChar_3b067 : MD := (prog_19_method_5_code, ⟨"java/lang/StringUTF16", "getChar", "([BI)C"⟩, 2, (some .char))
theorem km_J2_getChar_3b067 : KM m_J2_getChar_3b067 2 := ⟨tb_3 233 rfl rfl, wi_java_lang_StringUTF16, by decide +kernel, by decide +kernel⟩
theorem ks_J2_getChar_3b067 : Cond.static m_J2_getChar_3b067.2.1 ∈ TB := tb_3 232 rfl rfl
def m_J2_length_9d52b : MD := (prog_19_method_6_code, ⟨"java/lang/StringUTF16", "length", "([B)I"⟩, 1, (some .int))
theorem km_J2_length_9d52b : KM m_J2_length_9d52b 1 := ⟨tb_3 229 rfl rfl, wi_java_lang_StringUTF16, by decide +kernel, by decide +kernel⟩
theorem ks_J2_length_9d52b : Cond.static m_J2_length_9d52b.2.1 ∈ TB := tb_3 228 rfl rfl
def m_J2_charAt_3b067 : MD := (prog_19_method_83_code, ⟨"java/lang/StringUTF16", "charAt", "([BI)C"⟩, 2, (some .char))
theorem km_J2_charAt_3b067 : KM m_J2_charAt_3b067 2 := ⟨tb_3 223 rfl rfl, wi_java_lang_StringUTF16, by decide +kernel, by decide +kernel⟩
theorem ks_J2_charAt_3b067 : Cond.static m_J2_charAt_3b067.2.1 ∈ TB := tb_3 222 rfl rfl
def m_J2_checkIndex_2214a : MD := (prog_19_method_91_code, ⟨"java/lang/StringUTF16", "checkIndex", "(I[B)V"⟩, 2, none)
theorem km_J2_checkIndex_2214a : KM m_J2_checkIndex_2214a 2 := ⟨tb_3 226 rfl rfl, wi_java_lang_StringUTF16, by decide +kernel, by decide +kernel⟩
theorem ks_J2_checkIndex_2214a : Cond.static m_J2_checkIndex_2214a.2.1 ∈ TB := tb_3 225 rfl rfl
def m_J3_checkIndex_8e157 : MD := (prog_21_method_11_code, ⟨"jdk/internal/util/Preconditions", "checkIndex", "(IILjava/util/function/BiFunction;)I"⟩, 3, (some .int))
theorem km_J3_checkIndex_8e157 : KM m_J3_checkIndex_8e157 3 := ⟨tb_3 220 rfl rfl, wi_jdk_internal_util_Preconditions, by decide +kernel, by decide +kernel⟩
theorem ks_J3_checkIndex_8e157 : Cond.static m_J3_checkIndex_8e157.2.1 ∈ TB := tb_3 219 rfl rfl
theorem ml_Encores_15 : Cond.methodLink "Encores" 15 ⟨"Encores$House", "<init>", "()V"⟩ ∈ TB := tb_1 31 rfl rfl
theorem ml_Encores_29 : Cond.methodLink "Encores" 29 ⟨"Encores$Past", "<init>", "()V"⟩ ∈ TB := tb_1 136 rfl rfl
theorem ml_Encores_50 : Cond.methodLink "Encores" 50 ⟨"Encores$Reader", "<init>", "(LEncores$Tape;)V"⟩ ∈ TB := tb_1 211 rfl rfl
theorem ml_Encores_59 : Cond.methodLink "Encores" 59 ⟨"Encores$Law", "<init>", "(LEncores$House;)V"⟩ ∈ TB := tb_2 20 rfl rfl
theorem ml_Encores_68 : Cond.methodLink "Encores" 68 ⟨"Encores$Stage", "<init>", "(LEncores$House;LEncores$Law;)V"⟩ ∈ TB := tb_2 36 rfl rfl
theorem ml_Encores_77 : Cond.methodLink "Encores" 77 ⟨"Encores$Fewest", "<init>", "(LEncores$House;LEncores$Law;LEncores$Stage;)V"⟩ ∈ TB := tb_2 67 rfl rfl
theorem ml_Encores_86 : Cond.methodLink "Encores" 86 ⟨"Encores$Seats", "<init>", "(LEncores$House;)V"⟩ ∈ TB := tb_2 97 rfl rfl
theorem ml_Encores_93 : Cond.methodLink "Encores" 93 ⟨"Encores$Programme", "<init>", "(LEncores$House;)V"⟩ ∈ TB := tb_2 107 rfl rfl
theorem ml_Encores_98 : Cond.methodLink "Encores" 98 ⟨"Encores$House", "hour", "(I)I"⟩ ∈ TB := tb_2 159 rfl rfl
theorem ml_Encores_102 : Cond.methodLink "Encores" 102 ⟨"Encores$House", "setHour", "(II)V"⟩ ∈ TB := tb_2 167 rfl rfl
theorem ml_Encores_106 : Cond.methodLink "Encores" 106 ⟨"Encores$Past", "forget", "()V"⟩ ∈ TB := tb_2 171 rfl rfl
theorem ml_Encores_109 : Cond.methodLink "Encores" 109 ⟨"Encores", "within", "(III)Z"⟩ ∈ TB := tb_2 179 rfl rfl
theorem ml_Encores_123 : Cond.methodLink "Encores" 123 ⟨"Encores$Table", "add", "(IIII)Z"⟩ ∈ TB := tb_2 182 rfl rfl
theorem ml_Encores_127 : Cond.methodLink "Encores" 127 ⟨"Encores$Table", "put", "(III)V"⟩ ∈ TB := tb_2 183 rfl rfl
theorem ml_Encores_134 : Cond.methodLink "Encores" 134 ⟨"Encores", "setTo", "(LEncores$Table;IIII)Z"⟩ ∈ TB := tb_2 192 rfl rfl
theorem ml_Encores_138 : Cond.methodLink "Encores" 138 ⟨"Encores$Table", "has", "(I)Z"⟩ ∈ TB := tb_2 195 rfl rfl
theorem ml_Encores_142 : Cond.methodLink "Encores" 142 ⟨"Encores$Table", "at", "(II)I"⟩ ∈ TB := tb_2 203 rfl rfl
theorem ml_Encores_146 : Cond.methodLink "Encores" 146 ⟨"Encores$Past", "keep", "(LEncores$House;)V"⟩ ∈ TB := tb_2 204 rfl rfl
theorem ml_Encores_149 : Cond.methodLink "Encores" 149 ⟨"Encores$Stage", "doWithAgains", "(I)I"⟩ ∈ TB := tb_2 226 rfl rfl
theorem ml_Encores_157 : Cond.methodLink "Encores" 157 ⟨"Encores$House", "note", "(III)V"⟩ ∈ TB := tb_3 109 rfl rfl
theorem ml_Encores_160 : Cond.methodLink "Encores" 160 ⟨"Encores", "turn", "(IIZI)Z"⟩ ∈ TB := tb_3 114 rfl rfl
theorem ml_Encores_164 : Cond.methodLink "Encores" 164 ⟨"Encores$Stage", "spendEvening", "()I"⟩ ∈ TB := tb_3 126 rfl rfl
theorem ml_Encores_168 : Cond.methodLink "Encores" 168 ⟨"Encores$Tape", "hasRoom", "(I)Z"⟩ ∈ TB := tb_3 137 rfl rfl
theorem ml_Encores_171 : Cond.methodLink "Encores" 171 ⟨"Encores$Tape", "append", "(I)V"⟩ ∈ TB := tb_3 141 rfl rfl
theorem ml_Encores_178 : Cond.methodLink "Encores" 178 ⟨"Encores$Reader", "read", "(III)V"⟩ ∈ TB := tb_3 153 rfl rfl
theorem ml_Encores_189 : Cond.methodLink "Encores" 189 ⟨"Encores$House", "takeText", "(ILEncores$Table;LEncores$Table;)V"⟩ ∈ TB := tb_4 84 rfl rfl
theorem ml_Encores_196 : Cond.methodLink "Encores" 196 ⟨"Encores$Law", "clap", "(III)I"⟩ ∈ TB := tb_4 106 rfl rfl
theorem ml_Encores_200 : Cond.methodLink "Encores" 200 ⟨"Encores$Law", "ofDeed", "(II)I"⟩ ∈ TB := tb_4 111 rfl rfl
theorem ml_Encores_203 : Cond.methodLink "Encores" 203 ⟨"Encores$House", "handsDue", "()I"⟩ ∈ TB := tb_4 116 rfl rfl
theorem ml_Encores_206 : Cond.methodLink "Encores" 206 ⟨"Encores$House", "mostAgains", "()I"⟩ ∈ TB := tb_4 117 rfl rfl
theorem ml_Encores_209 : Cond.methodLink "Encores" 209 ⟨"Encores$House", "endMinute", "()I"⟩ ∈ TB := tb_4 118 rfl rfl
theorem ml_Encores_215 : Cond.methodLink "Encores" 215 ⟨"Encores$House", "those", "(I)I"⟩ ∈ TB := tb_4 127 rfl rfl
theorem ml_Encores_236 : Cond.methodLink "Encores" 236 ⟨"Encores$Moment", "keep", "(LEncores$House;)V"⟩ ∈ TB := tb_4 133 rfl rfl
theorem ml_Encores_240 : Cond.methodLink "Encores" 240 ⟨"Encores$Moment", "back", "(LEncores$House;)V"⟩ ∈ TB := tb_4 134 rfl rfl
theorem ml_Encores_243 : Cond.methodLink "Encores" 243 ⟨"Encores", "settle", "(I)I"⟩ ∈ TB := tb_4 142 rfl rfl
theorem ml_Encores_252 : Cond.methodLink "Encores" 252 ⟨"Encores$Stage", "begin", "(I)V"⟩ ∈ TB := tb_4 146 rfl rfl
theorem ml_Encores_255 : Cond.methodLink "Encores" 255 ⟨"Encores$Stage", "applaud", "(I)V"⟩ ∈ TB := tb_4 147 rfl rfl
theorem ml_Encores_258 : Cond.methodLink "Encores" 258 ⟨"Encores$Stage", "handsAt", "(I)I"⟩ ∈ TB := tb_4 148 rfl rfl
theorem ml_Encores_261 : Cond.methodLink "Encores" 261 ⟨"Encores", "fewestAway", "(II)I"⟩ ∈ TB := tb_4 153 rfl rfl
theorem ml_Encores_264 : Cond.methodLink "Encores" 264 ⟨"Encores", "numberOrSet", "(II)I"⟩ ∈ TB := tb_4 193 rfl rfl
theorem ml_Encores_267 : Cond.methodLink "Encores" 267 ⟨"Encores$Fewest", "prepare", "(II)V"⟩ ∈ TB := tb_4 157 rfl rfl
theorem ml_Encores_270 : Cond.methodLink "Encores" 270 ⟨"Encores$Fewest", "away", "(I)I"⟩ ∈ TB := tb_4 178 rfl rfl
theorem ml_Encores_273 : Cond.methodLink "Encores" 273 ⟨"java/lang/Integer", "bitCount", "(I)I"⟩ ∈ TB := tb_4 196 rfl rfl
theorem ml_Encores_278 : Cond.methodLink "Encores" 278 ⟨"Encores", "isIn", "(II)Z"⟩ ∈ TB := tb_4 205 rfl rfl
theorem ml_Encores_282 : Cond.methodLink "Encores" 282 ⟨"Encores$Law", "clapIfPaid", "(III)I"⟩ ∈ TB := tb_4 222 rfl rfl
theorem ml_Encores_285 : Cond.methodLink "Encores" 285 ⟨"Encores$Programme", "fullest", "(I)I"⟩ ∈ TB := tb_4 230 rfl rfl
theorem ml_Encores_288 : Cond.methodLink "Encores" 288 ⟨"Encores$Programme", "sumOf", "(II)I"⟩ ∈ TB := tb_5 0 rfl rfl
theorem ml_Encores_291 : Cond.methodLink "Encores" 291 ⟨"Encores$Programme", "leastSum", "(I)I"⟩ ∈ TB := tb_5 5 rfl rfl
theorem ml_Encores_294 : Cond.methodLink "Encores" 294 ⟨"Encores$Programme", "firstOf", "(I)I"⟩ ∈ TB := tb_5 17 rfl rfl
theorem ml_Encores_297 : Cond.methodLink "Encores" 297 ⟨"Encores$Programme", "winningHeap", "()I"⟩ ∈ TB := tb_5 26 rfl rfl
theorem ml_Encores_300 : Cond.methodLink "Encores" 300 ⟨"Encores$Programme", "winningTake", "(I)I"⟩ ∈ TB := tb_5 39 rfl rfl
theorem ml_Encores_303 : Cond.methodLink "Encores" 303 ⟨"Encores", "clearWith", "()V"⟩ ∈ TB := tb_5 48 rfl rfl
theorem ml_Encores_306 : Cond.methodLink "Encores" 306 ⟨"Encores", "couldBePaid", "(I)Z"⟩ ∈ TB := tb_5 52 rfl rfl
theorem ml_Encores_309 : Cond.methodLink "Encores" 309 ⟨"Encores", "countWith", "(I)V"⟩ ∈ TB := tb_5 56 rfl rfl
theorem ml_Encores_312 : Cond.methodLink "Encores" 312 ⟨"Encores", "whomToAsk", "(I)I"⟩ ∈ TB := tb_5 60 rfl rfl
theorem ml_Encores_320 : Cond.methodLink "Encores" 320 ⟨"Encores", "weightOfAll", "()I"⟩ ∈ TB := tb_5 74 rfl rfl
theorem ml_Encores_323 : Cond.methodLink "Encores" 323 ⟨"Encores", "weight", "(I)I"⟩ ∈ TB := tb_5 78 rfl rfl
theorem ml_Encores_326 : Cond.methodLink "Encores" 326 ⟨"Encores$Seats", "all", "()I"⟩ ∈ TB := tb_5 86 rfl rfl
theorem ml_Encores_329 : Cond.methodLink "Encores" 329 ⟨"Encores$Seats", "reached", "(III)I"⟩ ∈ TB := tb_5 90 rfl rfl
theorem ml_Encores_332 : Cond.methodLink "Encores" 332 ⟨"Encores$Seats", "fewestBetween", "(II)I"⟩ ∈ TB := tb_5 100 rfl rfl
theorem ml_Encores_338 : Cond.methodLink "Encores" 338 ⟨"Encores", "meaningBehind", "(II)I"⟩ ∈ TB := tb_5 121 rfl rfl
theorem ml_Encores_341 : Cond.methodLink "Encores" 341 ⟨"Encores", "timesRound", "(I)I"⟩ ∈ TB := tb_5 125 rfl rfl
theorem ml_Encores_344 : Cond.methodLink "Encores" 344 ⟨"Encores$Past", "back", "(LEncores$House;)Z"⟩ ∈ TB := tb_5 133 rfl rfl
theorem ml_Encores_347 : Cond.methodLink "Encores" 347 ⟨"Encores$House", "copy", "(LEncores$House;)V"⟩ ∈ TB := tb_5 142 rfl rfl
theorem ml_Encores_Fewest_11 : Cond.methodLink "Encores$Fewest" 11 ⟨"Encores$Table", "<init>", "(II)V"⟩ ∈ TB := tb_2 72 rfl rfl
theorem ml_Encores_Fewest_46 : Cond.methodLink "Encores$Fewest" 46 ⟨"Encores$Stage", "begin", "(I)V"⟩ ∈ TB := tb_4 161 rfl rfl
theorem ml_Encores_Fewest_52 : Cond.methodLink "Encores$Fewest" 52 ⟨"Encores$House", "mayGoOn", "()Z"⟩ ∈ TB := tb_4 162 rfl rfl
theorem ml_Encores_Fewest_58 : Cond.methodLink "Encores$Fewest" 58 ⟨"Encores$House", "handsDue", "()I"⟩ ∈ TB := tb_4 163 rfl rfl
theorem ml_Encores_Fewest_62 : Cond.methodLink "Encores$Fewest" 62 ⟨"Encores$Law", "ofDeed", "(II)I"⟩ ∈ TB := tb_4 164 rfl rfl
theorem ml_Encores_Fewest_69 : Cond.methodLink "Encores$Fewest" 69 ⟨"Encores$Table", "add", "(IIII)Z"⟩ ∈ TB := tb_4 166 rfl rfl
theorem ml_Encores_Fewest_73 : Cond.methodLink "Encores$Fewest" 73 ⟨"Encores$Fewest", "prepareClaps", "(II)I"⟩ ∈ TB := tb_4 167 rfl rfl
theorem ml_Encores_Fewest_76 : Cond.methodLink "Encores$Fewest" 76 ⟨"Encores$Stage", "handsOf", "(I)I"⟩ ∈ TB := tb_4 177 rfl rfl
theorem ml_Encores_Fewest_80 : Cond.methodLink "Encores$Fewest" 80 ⟨"Encores$House", "those", "(I)I"⟩ ∈ TB := tb_4 171 rfl rfl
theorem ml_Encores_Fewest_90 : Cond.methodLink "Encores$Fewest" 90 ⟨"Encores$Table", "at", "(II)I"⟩ ∈ TB := tb_4 173 rfl rfl
theorem ml_Encores_Fewest_93 : Cond.methodLink "Encores$Fewest" 93 ⟨"java/lang/Integer", "bitCount", "(I)I"⟩ ∈ TB := tb_4 174 rfl rfl
theorem ml_Encores_Fewest_98 : Cond.methodLink "Encores$Fewest" 98 ⟨"Encores$Law", "clap", "(III)I"⟩ ∈ TB := tb_4 175 rfl rfl
theorem ml_Encores_Fewest_102 : Cond.methodLink "Encores$Fewest" 102 ⟨"Encores$Table", "put", "(III)V"⟩ ∈ TB := tb_4 176 rfl rfl
theorem ml_Encores_Fewest_106 : Cond.methodLink "Encores$Fewest" 106 ⟨"Encores$Fewest", "isDone", "(II)Z"⟩ ∈ TB := tb_4 182 rfl rfl
theorem ml_Encores_Fewest_112 : Cond.methodLink "Encores$Fewest" 112 ⟨"Encores$Fewest", "clappingAt", "(II)I"⟩ ∈ TB := tb_4 186 rfl rfl
theorem ml_Encores_House_11 : Cond.methodLink "Encores$House" 11 ⟨"Encores$Table", "<init>", "(II)V"⟩ ∈ TB := tb_1 37 rfl rfl
theorem ml_Encores_House_50 : Cond.methodLink "Encores$House" 50 ⟨"Encores$Table", "add", "(IIII)Z"⟩ ∈ TB := tb_1 68 rfl rfl
theorem ml_Encores_House_54 : Cond.methodLink "Encores$House" 54 ⟨"Encores$Table", "put", "(III)V"⟩ ∈ TB := tb_1 72 rfl rfl
theorem ml_Encores_House_58 : Cond.methodLink "Encores$House" 58 ⟨"Encores$Table", "copy", "(LEncores$Table;)V"⟩ ∈ TB := tb_4 88 rfl rfl
theorem ml_Encores_House_62 : Cond.methodLink "Encores$House" 62 ⟨"Encores$Table", "at", "(II)I"⟩ ∈ TB := tb_2 163 rfl rfl
theorem ml_Encores_House_70 : Cond.methodLink "Encores$House" 70 ⟨"Encores$House", "countHands", "()V"⟩ ∈ TB := tb_4 89 rfl rfl
theorem ml_Encores_House_73 : Cond.methodLink "Encores$House" 73 ⟨"Encores$House", "seat", "()V"⟩ ∈ TB := tb_4 93 rfl rfl
theorem ml_Encores_House_76 : Cond.methodLink "Encores$House" 76 ⟨"Encores$House", "lastOf", "(II)I"⟩ ∈ TB := tb_3 96 rfl rfl
theorem ml_Encores_House_79 : Cond.methodLink "Encores$House" 79 ⟨"Encores$House", "mostAgains", "()I"⟩ ∈ TB := tb_3 92 rfl rfl
theorem ml_Encores_House_83 : Cond.methodLink "Encores$House" 83 ⟨"Encores$House", "endMinute", "()I"⟩ ∈ TB := tb_3 100 rfl rfl
theorem ml_Encores_Law_22 : Cond.methodLink "Encores$Law" 22 ⟨"Encores$Law", "askOf", "(III)V"⟩ ∈ TB := tb_3 0 rfl rfl
theorem ml_Encores_Law_26 : Cond.methodLink "Encores$Law" 26 ⟨"Encores$Law", "tell", "(I)I"⟩ ∈ TB := tb_3 10 rfl rfl
theorem ml_Encores_Law_30 : Cond.methodLink "Encores$Law" 30 ⟨"Encores$Law", "ask", "(II)V"⟩ ∈ TB := tb_3 5 rfl rfl
theorem ml_Encores_Law_40 : Cond.methodLink "Encores$Law" 40 ⟨"Encores$Table", "has", "(I)Z"⟩ ∈ TB := tb_3 4 rfl rfl
theorem ml_Encores_Law_46 : Cond.methodLink "Encores$Law" 46 ⟨"Encores$Table", "at", "(II)I"⟩ ∈ TB := tb_3 9 rfl rfl
theorem ml_Encores_Law_63 : Cond.methodLink "Encores$Law" 63 ⟨"Encores$Law", "run", "(II)I"⟩ ∈ TB := tb_3 14 rfl rfl
theorem ml_Encores_Law_66 : Cond.methodLink "Encores$Law" 66 ⟨"Encores$Law", "held", "(II)I"⟩ ∈ TB := tb_3 25 rfl rfl
theorem ml_Encores_Law_69 : Cond.methodLink "Encores$Law" 69 ⟨"Encores$Law", "answer", "(I)I"⟩ ∈ TB := tb_3 18 rfl rfl
theorem ml_Encores_Law_83 : Cond.methodLink "Encores$Law" 83 ⟨"Encores$Law", "joined", "(III)I"⟩ ∈ TB := tb_3 22 rfl rfl
theorem ml_Encores_Moment_11 : Cond.methodLink "Encores$Moment" 11 ⟨"Encores$Table", "<init>", "(II)V"⟩ ∈ TB := tb_1 148 rfl rfl
theorem ml_Encores_Moment_29 : Cond.methodLink "Encores$Moment" 29 ⟨"Encores$Table", "copy", "(LEncores$Table;)V"⟩ ∈ TB := tb_2 216 rfl rfl
theorem ml_Encores_Past_22 : Cond.methodLink "Encores$Past" 22 ⟨"Encores$Past", "momentAt", "(I)LEncores$Moment;"⟩ ∈ TB := tb_2 208 rfl rfl
theorem ml_Encores_Past_26 : Cond.methodLink "Encores$Past" 26 ⟨"Encores$Moment", "keep", "(LEncores$House;)V"⟩ ∈ TB := tb_2 212 rfl rfl
theorem ml_Encores_Past_39 : Cond.methodLink "Encores$Past" 39 ⟨"Encores$Moment", "back", "(LEncores$House;)V"⟩ ∈ TB := tb_5 137 rfl rfl
theorem ml_Encores_Programme_31 : Cond.methodLink "Encores$Programme" 31 ⟨"Encores$Table", "at", "(II)I"⟩ ∈ TB := tb_4 239 rfl rfl
theorem ml_Encores_Programme_35 : Cond.methodLink "Encores$Programme" 35 ⟨"Encores$Programme", "sumOf", "(II)I"⟩ ∈ TB := tb_4 234 rfl rfl
theorem ml_Encores_Programme_38 : Cond.methodLink "Encores$Programme" 38 ⟨"Encores$Programme", "isWorthMore", "(II)Z"⟩ ∈ TB := tb_5 13 rfl rfl
theorem ml_Encores_Programme_41 : Cond.methodLink "Encores$Programme" 41 ⟨"Encores$Programme", "firstOf", "(I)I"⟩ ∈ TB := tb_5 9 rfl rfl
theorem ml_Encores_Programme_45 : Cond.methodLink "Encores$Programme" 45 ⟨"Encores$Programme", "winningTake", "(I)I"⟩ ∈ TB := tb_5 30 rfl rfl
theorem ml_Encores_Programme_48 : Cond.methodLink "Encores$Programme" 48 ⟨"Encores$Programme", "grundy", "(I)I"⟩ ∈ TB := tb_5 34 rfl rfl
theorem ml_Encores_Reader_11 : Cond.methodLink "Encores$Reader" 11 ⟨"Encores$Table", "<init>", "(II)V"⟩ ∈ TB := tb_1 216 rfl rfl
theorem ml_Encores_Reader_49 : Cond.methodLink "Encores$Reader" 49 ⟨"Encores$Tape", "scan", "()V"⟩ ∈ TB := tb_3 158 rfl rfl
theorem ml_Encores_Reader_57 : Cond.methodLink "Encores$Reader" 57 ⟨"Encores$Reader", "readLine", "(I)V"⟩ ∈ TB := tb_4 10 rfl rfl
theorem ml_Encores_Reader_61 : Cond.methodLink "Encores$Reader" 61 ⟨"Encores$Reader", "begins", "(II)Z"⟩ ∈ TB := tb_4 14 rfl rfl
theorem ml_Encores_Reader_65 : Cond.methodLink "Encores$Reader" 65 ⟨"Encores$Reader", "blame", "(I)V"⟩ ∈ TB := tb_4 17 rfl rfl
theorem ml_Encores_Reader_71 : Cond.methodLink "Encores$Reader" 71 ⟨"Encores$Table", "add", "(IIII)Z"⟩ ∈ TB := tb_4 21 rfl rfl
theorem ml_Encores_Reader_75 : Cond.methodLink "Encores$Reader" 75 ⟨"Encores$Tape", "next", "()V"⟩ ∈ TB := tb_4 22 rfl rfl
theorem ml_Encores_Reader_78 : Cond.methodLink "Encores$Reader" 78 ⟨"Encores$Reader", "readLaw", "()V"⟩ ∈ TB := tb_4 23 rfl rfl
theorem ml_Encores_Reader_81 : Cond.methodLink "Encores$Reader" 81 ⟨"Encores$Reader", "readStatute", "(I)V"⟩ ∈ TB := tb_4 72 rfl rfl
theorem ml_Encores_Reader_84 : Cond.methodLink "Encores$Reader" 84 ⟨"Encores$Reader", "readNumber", "(III)V"⟩ ∈ TB := tb_4 76 rfl rfl
theorem ml_Encores_Reader_88 : Cond.methodLink "Encores$Reader" 88 ⟨"Encores$Reader", "readWord", "(I)V"⟩ ∈ TB := tb_4 80 rfl rfl
theorem ml_Encores_Reader_91 : Cond.methodLink "Encores$Reader" 91 ⟨"Encores$Table", "at", "(II)I"⟩ ∈ TB := tb_4 62 rfl rfl
theorem ml_Encores_Reader_98 : Cond.methodLink "Encores$Reader" 98 ⟨"Encores$Table", "put", "(III)V"⟩ ∈ TB := tb_4 27 rfl rfl
theorem ml_Encores_Reader_113 : Cond.methodLink "Encores$Reader" 113 ⟨"Encores$Reader", "readCondition", "()I"⟩ ∈ TB := tb_4 28 rfl rfl
theorem ml_Encores_Reader_117 : Cond.methodLink "Encores$Reader" 117 ⟨"Encores$Reader", "readUnit", "()I"⟩ ∈ TB := tb_4 36 rfl rfl
theorem ml_Encores_Reader_120 : Cond.methodLink "Encores$Reader" 120 ⟨"Encores$Reader", "readDivisor", "()I"⟩ ∈ TB := tb_4 40 rfl rfl
theorem ml_Encores_Reader_123 : Cond.methodLink "Encores$Reader" 123 ⟨"Encores$Reader", "readBehindUnit", "()I"⟩ ∈ TB := tb_4 44 rfl rfl
theorem ml_Encores_Reader_126 : Cond.methodLink "Encores$Reader" 126 ⟨"Encores$Reader", "readBehindCondition", "()I"⟩ ∈ TB := tb_4 67 rfl rfl
theorem ml_Encores_Reader_129 : Cond.methodLink "Encores$Reader" 129 ⟨"Encores$Reader", "failed", "(I)I"⟩ ∈ TB := tb_4 32 rfl rfl
theorem ml_Encores_Reader_133 : Cond.methodLink "Encores$Reader" 133 ⟨"Encores$Reader", "opOf", "(I)I"⟩ ∈ TB := tb_4 48 rfl rfl
theorem ml_Encores_Reader_136 : Cond.methodLink "Encores$Reader" 136 ⟨"Encores$Reader", "join", "(I)V"⟩ ∈ TB := tb_4 51 rfl rfl
theorem ml_Encores_Reader_139 : Cond.methodLink "Encores$Reader" 139 ⟨"Encores$Reader", "dropDownTo", "(I)V"⟩ ∈ TB := tb_4 58 rfl rfl
theorem ml_Encores_Reader_142 : Cond.methodLink "Encores$Reader" 142 ⟨"Encores$Reader", "finish", "()I"⟩ ∈ TB := tb_4 63 rfl rfl
theorem ml_Encores_Reader_150 : Cond.methodLink "Encores$Reader" 150 ⟨"Encores$Reader", "strength", "(I)I"⟩ ∈ TB := tb_4 55 rfl rfl
theorem ml_Encores_Seats_31 : Cond.methodLink "Encores$Seats" 31 ⟨"Encores$Table", "at", "(II)I"⟩ ∈ TB := tb_5 95 rfl rfl
theorem ml_Encores_Seats_35 : Cond.methodLink "Encores$Seats" 35 ⟨"Encores$Seats", "all", "()I"⟩ ∈ TB := tb_5 104 rfl rfl
theorem ml_Encores_Seats_39 : Cond.methodLink "Encores$Seats" 39 ⟨"Encores$House", "those", "(I)I"⟩ ∈ TB := tb_5 105 rfl rfl
theorem ml_Encores_Seats_43 : Cond.methodLink "Encores$Seats" 43 ⟨"java/lang/Integer", "bitCount", "(I)I"⟩ ∈ TB := tb_5 106 rfl rfl
theorem ml_Encores_Seats_48 : Cond.methodLink "Encores$Seats" 48 ⟨"Encores$Seats", "reached", "(III)I"⟩ ∈ TB := tb_5 107 rfl rfl
theorem ml_Encores_Stage_26 : Cond.methodLink "Encores$Stage" 26 ⟨"Encores$House", "setHour", "(II)V"⟩ ∈ TB := tb_2 235 rfl rfl
theorem ml_Encores_Stage_42 : Cond.methodLink "Encores$Stage" 42 ⟨"Encores$House", "hour", "(I)I"⟩ ∈ TB := tb_2 234 rfl rfl
theorem ml_Encores_Stage_46 : Cond.methodLink "Encores$Stage" 46 ⟨"Encores$Table", "at", "(II)I"⟩ ∈ TB := tb_3 30 rfl rfl
theorem ml_Encores_Stage_55 : Cond.methodLink "Encores$Stage" 55 ⟨"Encores$House", "endMinute", "()I"⟩ ∈ TB := tb_3 131 rfl rfl
theorem ml_Encores_Stage_59 : Cond.methodLink "Encores$Stage" 59 ⟨"Encores$Stage", "doWithAgains", "(I)I"⟩ ∈ TB := tb_3 132 rfl rfl
theorem ml_Encores_Stage_62 : Cond.methodLink "Encores$Stage" 62 ⟨"Encores$Stage", "begin", "(I)V"⟩ ∈ TB := tb_2 230 rfl rfl
theorem ml_Encores_Stage_66 : Cond.methodLink "Encores$Stage" 66 ⟨"Encores$Stage", "drawEach", "()V"⟩ ∈ TB := tb_3 33 rfl rfl
theorem ml_Encores_Stage_69 : Cond.methodLink "Encores$Stage" 69 ⟨"Encores$Stage", "applaud", "(I)V"⟩ ∈ TB := tb_3 43 rfl rfl
theorem ml_Encores_Stage_72 : Cond.methodLink "Encores$Stage" 72 ⟨"Encores$Stage", "coughs", "()Z"⟩ ∈ TB := tb_3 64 rfl rfl
theorem ml_Encores_Stage_76 : Cond.methodLink "Encores$Stage" 76 ⟨"Encores$Stage", "handsAt", "(I)I"⟩ ∈ TB := tb_3 68 rfl rfl
theorem ml_Encores_Stage_79 : Cond.methodLink "Encores$Stage" 79 ⟨"Encores$Stage", "noteDone", "(IZI)V"⟩ ∈ TB := tb_3 76 rfl rfl
theorem ml_Encores_Stage_83 : Cond.methodLink "Encores$Stage" 83 ⟨"Encores$House", "handsDue", "()I"⟩ ∈ TB := tb_3 84 rfl rfl
theorem ml_Encores_Stage_86 : Cond.methodLink "Encores$Stage" 86 ⟨"Encores$House", "mayGoOn", "()Z"⟩ ∈ TB := tb_3 88 rfl rfl
theorem ml_Encores_Stage_89 : Cond.methodLink "Encores$Stage" 89 ⟨"Encores$Law", "ofDeed", "(II)I"⟩ ∈ TB := tb_2 236 rfl rfl
theorem ml_Encores_Stage_97 : Cond.methodLink "Encores$Stage" 97 ⟨"Encores$Table", "put", "(III)V"⟩ ∈ TB := tb_3 31 rfl rfl
theorem ml_Encores_Stage_113 : Cond.methodLink "Encores$Stage" 113 ⟨"Encores$Stage", "draw", "(I)I"⟩ ∈ TB := tb_3 37 rfl rfl
theorem ml_Encores_Stage_122 : Cond.methodLink "Encores$Stage" 122 ⟨"Encores$House", "those", "(I)I"⟩ ∈ TB := tb_3 47 rfl rfl
theorem ml_Encores_Stage_129 : Cond.methodLink "Encores$Stage" 129 ⟨"java/lang/Integer", "bitCount", "(I)I"⟩ ∈ TB := tb_3 54 rfl rfl
theorem ml_Encores_Stage_134 : Cond.methodLink "Encores$Stage" 134 ⟨"Encores$Law", "clap", "(III)I"⟩ ∈ TB := tb_3 60 rfl rfl
theorem ml_Encores_Stage_138 : Cond.methodLink "Encores$Stage" 138 ⟨"Encores$Stage", "handsOf", "(I)I"⟩ ∈ TB := tb_3 72 rfl rfl
theorem ml_Encores_Stage_141 : Cond.methodLink "Encores$Stage" 141 ⟨"Encores$House", "note", "(III)V"⟩ ∈ TB := tb_3 80 rfl rfl
theorem ml_Encores_Tape_17 : Cond.methodLink "Encores$Tape" 17 ⟨"Encores$Table", "<init>", "(II)V"⟩ ∈ TB := tb_1 182 rfl rfl
theorem ml_Encores_Tape_31 : Cond.methodLink "Encores$Tape" 31 ⟨"Encores$Tape", "byteAt", "(I)I"⟩ ∈ TB := tb_3 162 rfl rfl
theorem ml_Encores_Tape_35 : Cond.methodLink "Encores$Tape" 35 ⟨"Encores$Tape", "isBlank", "(I)Z"⟩ ∈ TB := tb_3 166 rfl rfl
theorem ml_Encores_Tape_39 : Cond.methodLink "Encores$Tape" 39 ⟨"Encores$Tape", "take", "(I)I"⟩ ∈ TB := tb_3 169 rfl rfl
theorem ml_Encores_Tape_42 : Cond.methodLink "Encores$Tape" 42 ⟨"Encores$Table", "add", "(IIII)Z"⟩ ∈ TB := tb_3 180 rfl rfl
theorem ml_Encores_Tape_49 : Cond.methodLink "Encores$Tape" 49 ⟨"Encores$Tape", "next", "()V"⟩ ∈ TB := tb_4 5 rfl rfl
theorem ml_Encores_Tape_52 : Cond.methodLink "Encores$Tape" 52 ⟨"Encores$Table", "at", "(II)I"⟩ ∈ TB := tb_4 9 rfl rfl
theorem ml_Encores_Tape_65 : Cond.methodLink "Encores$Tape" 65 ⟨"Encores$Tape", "isDigit", "(I)Z"⟩ ∈ TB := tb_3 173 rfl rfl
theorem ml_Encores_Tape_68 : Cond.methodLink "Encores$Tape" 68 ⟨"Encores$Tape", "takeNumber", "(I)I"⟩ ∈ TB := tb_3 176 rfl rfl
theorem ml_Encores_Tape_71 : Cond.methodLink "Encores$Tape" 71 ⟨"Encores$Tape", "isLetter", "(I)Z"⟩ ∈ TB := tb_3 181 rfl rfl
theorem ml_Encores_Tape_74 : Cond.methodLink "Encores$Tape" 74 ⟨"Encores$Tape", "isSign", "(I)Z"⟩ ∈ TB := tb_3 184 rfl rfl
theorem ml_Encores_Tape_77 : Cond.methodLink "Encores$Tape" 77 ⟨"Encores$Tape", "wordAt", "(II)I"⟩ ∈ TB := tb_3 187 rfl rfl
theorem ml_Encores_Tape_82 : Cond.methodLink "Encores$Tape" 82 ⟨"java/lang/String", "length", "()I"⟩ ∈ TB := tb_3 192 rfl rfl
theorem ml_Encores_Tape_87 : Cond.methodLink "Encores$Tape" 87 ⟨"java/lang/String", "charAt", "(I)C"⟩ ∈ TB := tb_3 202 rfl rfl
theorem ml_Encores_Tape_91 : Cond.methodLink "Encores$Tape" 91 ⟨"Encores$Tape", "isSame", "(III)Z"⟩ ∈ TB := tb_4 0 rfl rfl
theorem ml_EncoresLaw_9 : Cond.methodLink "EncoresLaw" 9 ⟨"Encores", "<init>", "()V"⟩ ∈ TB := tb_1 23 rfl rfl
theorem ml_EncoresLaw_12 : Cond.methodLink "EncoresLaw" 12 ⟨"EncoresModel", "<init>", "()V"⟩ ∈ TB := tb_5 148 rfl rfl
theorem ml_EncoresLaw_13 : Cond.methodLink "EncoresLaw" 13 ⟨"Encores", "state", "(I)I"⟩ ∈ TB := tb_2 155 rfl rfl
theorem ml_EncoresLaw_17 : Cond.methodLink "EncoresLaw" 17 ⟨"EncoresModel", "state", "(I)I"⟩ ∈ TB := tb_6 18 rfl rfl
theorem ml_EncoresLaw_18 : Cond.methodLink "EncoresLaw" 18 ⟨"Encores", "hearer", "(III)I"⟩ ∈ TB := tb_2 175 rfl rfl
theorem ml_EncoresLaw_22 : Cond.methodLink "EncoresLaw" 22 ⟨"EncoresModel", "hearer", "(III)I"⟩ ∈ TB := tb_6 26 rfl rfl
theorem ml_EncoresLaw_23 : Cond.methodLink "EncoresLaw" 23 ⟨"Encores", "deed", "(III)I"⟩ ∈ TB := tb_2 184 rfl rfl
theorem ml_EncoresLaw_26 : Cond.methodLink "EncoresLaw" 26 ⟨"EncoresModel", "deed", "(III)I"⟩ ∈ TB := tb_6 33 rfl rfl
theorem ml_EncoresLaw_27 : Cond.methodLink "EncoresLaw" 27 ⟨"Encores", "set", "(III)Z"⟩ ∈ TB := tb_2 188 rfl rfl
theorem ml_EncoresLaw_31 : Cond.methodLink "EncoresLaw" 31 ⟨"EncoresModel", "set", "(III)Z"⟩ ∈ TB := tb_6 37 rfl rfl
theorem ml_EncoresLaw_32 : Cond.methodLink "EncoresLaw" 32 ⟨"Encores", "perform", "(I)I"⟩ ∈ TB := tb_2 199 rfl rfl
theorem ml_EncoresLaw_35 : Cond.methodLink "EncoresLaw" 35 ⟨"EncoresModel", "perform", "(I)I"⟩ ∈ TB := tb_6 228 rfl rfl
theorem ml_EncoresLaw_36 : Cond.methodLink "EncoresLaw" 36 ⟨"Encores", "pay", "(II)Z"⟩ ∈ TB := tb_3 104 rfl rfl
theorem ml_EncoresLaw_40 : Cond.methodLink "EncoresLaw" 40 ⟨"EncoresModel", "pay", "(II)Z"⟩ ∈ TB := tb_7 94 rfl rfl
theorem ml_EncoresLaw_41 : Cond.methodLink "EncoresLaw" 41 ⟨"Encores", "glove", "(IZ)Z"⟩ ∈ TB := tb_3 110 rfl rfl
theorem ml_EncoresLaw_45 : Cond.methodLink "EncoresLaw" 45 ⟨"EncoresModel", "glove", "(IZ)Z"⟩ ∈ TB := tb_7 98 rfl rfl
theorem ml_EncoresLaw_46 : Cond.methodLink "EncoresLaw" 46 ⟨"Encores", "let", "(IZ)Z"⟩ ∈ TB := tb_3 118 rfl rfl
theorem ml_EncoresLaw_49 : Cond.methodLink "EncoresLaw" 49 ⟨"EncoresModel", "let", "(IZ)Z"⟩ ∈ TB := tb_7 102 rfl rfl
theorem ml_EncoresLaw_50 : Cond.methodLink "EncoresLaw" 50 ⟨"Encores", "evenings", "(I)I"⟩ ∈ TB := tb_3 122 rfl rfl
theorem ml_EncoresLaw_53 : Cond.methodLink "EncoresLaw" 53 ⟨"EncoresModel", "evenings", "(I)I"⟩ ∈ TB := tb_7 106 rfl rfl
theorem ml_EncoresLaw_54 : Cond.methodLink "EncoresLaw" 54 ⟨"Encores", "feed", "(IIIII)I"⟩ ∈ TB := tb_3 133 rfl rfl
theorem ml_EncoresLaw_58 : Cond.methodLink "EncoresLaw" 58 ⟨"EncoresModel", "feed", "(IIIII)I"⟩ ∈ TB := tb_6 53 rfl rfl
theorem ml_EncoresLaw_59 : Cond.methodLink "EncoresLaw" 59 ⟨"Encores", "end", "(I)Z"⟩ ∈ TB := tb_3 145 rfl rfl
theorem ml_EncoresLaw_63 : Cond.methodLink "EncoresLaw" 63 ⟨"EncoresModel", "end", "(I)Z"⟩ ∈ TB := tb_6 57 rfl rfl
theorem ml_EncoresLaw_64 : Cond.methodLink "EncoresLaw" 64 ⟨"Encores", "text", "(I)I"⟩ ∈ TB := tb_3 149 rfl rfl
theorem ml_EncoresLaw_67 : Cond.methodLink "EncoresLaw" 67 ⟨"EncoresModel", "text", "(I)I"⟩ ∈ TB := tb_6 61 rfl rfl
theorem ml_EncoresLaw_68 : Cond.methodLink "EncoresLaw" 68 ⟨"Encores", "fault", "(I)I"⟩ ∈ TB := tb_4 98 rfl rfl
theorem ml_EncoresLaw_71 : Cond.methodLink "EncoresLaw" 71 ⟨"EncoresModel", "fault", "(I)I"⟩ ∈ TB := tb_6 220 rfl rfl
theorem ml_EncoresLaw_72 : Cond.methodLink "EncoresLaw" 72 ⟨"Encores", "of", "(II)I"⟩ ∈ TB := tb_4 102 rfl rfl
theorem ml_EncoresLaw_76 : Cond.methodLink "EncoresLaw" 76 ⟨"EncoresModel", "of", "(II)I"⟩ ∈ TB := tb_7 114 rfl rfl
theorem ml_EncoresLaw_77 : Cond.methodLink "EncoresLaw" 77 ⟨"Encores", "deedOf", "(II)I"⟩ ∈ TB := tb_4 107 rfl rfl
theorem ml_EncoresLaw_80 : Cond.methodLink "EncoresLaw" 80 ⟨"EncoresModel", "deedOf", "(II)I"⟩ ∈ TB := tb_7 118 rfl rfl
theorem ml_EncoresLaw_81 : Cond.methodLink "EncoresLaw" 81 ⟨"Encores", "statute", "(I)I"⟩ ∈ TB := tb_4 112 rfl rfl
theorem ml_EncoresLaw_84 : Cond.methodLink "EncoresLaw" 84 ⟨"EncoresModel", "statute", "(I)I"⟩ ∈ TB := tb_7 122 rfl rfl
theorem ml_EncoresLaw_85 : Cond.methodLink "EncoresLaw" 85 ⟨"Encores", "book", "(II)I"⟩ ∈ TB := tb_4 119 rfl rfl
theorem ml_EncoresLaw_88 : Cond.methodLink "EncoresLaw" 88 ⟨"EncoresModel", "book", "(II)I"⟩ ∈ TB := tb_7 126 rfl rfl
theorem ml_EncoresLaw_89 : Cond.methodLink "EncoresLaw" 89 ⟨"Encores", "goes", "(I)I"⟩ ∈ TB := tb_4 129 rfl rfl
theorem ml_EncoresLaw_92 : Cond.methodLink "EncoresLaw" 92 ⟨"EncoresModel", "goes", "(I)I"⟩ ∈ TB := tb_7 130 rfl rfl
theorem ml_EncoresLaw_93 : Cond.methodLink "EncoresLaw" 93 ⟨"Encores", "settles", "(II)I"⟩ ∈ TB := tb_4 138 rfl rfl
theorem ml_EncoresLaw_96 : Cond.methodLink "EncoresLaw" 96 ⟨"EncoresModel", "settles", "(II)I"⟩ ∈ TB := tb_7 143 rfl rfl
theorem ml_EncoresLaw_97 : Cond.methodLink "EncoresLaw" 97 ⟨"Encores", "makes", "(III)I"⟩ ∈ TB := tb_4 149 rfl rfl
theorem ml_EncoresLaw_100 : Cond.methodLink "EncoresLaw" 100 ⟨"EncoresModel", "makes", "(III)I"⟩ ∈ TB := tb_7 147 rfl rfl
theorem ml_EncoresLaw_101 : Cond.methodLink "EncoresLaw" 101 ⟨"Encores", "fills", "(II)I"⟩ ∈ TB := tb_4 226 rfl rfl
theorem ml_EncoresLaw_104 : Cond.methodLink "EncoresLaw" 104 ⟨"EncoresModel", "fills", "(II)I"⟩ ∈ TB := tb_7 180 rfl rfl
theorem ml_EncoresLaw_105 : Cond.methodLink "EncoresLaw" 105 ⟨"Encores", "lines", "(II)I"⟩ ∈ TB := tb_5 1 rfl rfl
theorem ml_EncoresLaw_108 : Cond.methodLink "EncoresLaw" 108 ⟨"EncoresModel", "lines", "(II)I"⟩ ∈ TB := tb_7 200 rfl rfl
theorem ml_EncoresLaw_109 : Cond.methodLink "EncoresLaw" 109 ⟨"Encores", "claque", "(II)I"⟩ ∈ TB := tb_5 40 rfl rfl
theorem ml_EncoresLaw_112 : Cond.methodLink "EncoresLaw" 112 ⟨"EncoresModel", "claque", "(II)I"⟩ ∈ TB := tb_7 213 rfl rfl
theorem ml_EncoresLaw_113 : Cond.methodLink "EncoresLaw" 113 ⟨"Encores", "fits", "(I)I"⟩ ∈ TB := tb_5 44 rfl rfl
theorem ml_EncoresLaw_116 : Cond.methodLink "EncoresLaw" 116 ⟨"EncoresModel", "fits", "(I)I"⟩ ∈ TB := tb_7 221 rfl rfl
theorem ml_EncoresLaw_117 : Cond.methodLink "EncoresLaw" 117 ⟨"Encores", "cuts", "(III)I"⟩ ∈ TB := tb_5 96 rfl rfl
theorem ml_EncoresLaw_120 : Cond.methodLink "EncoresLaw" 120 ⟨"EncoresModel", "cuts", "(III)I"⟩ ∈ TB := tb_8 1 rfl rfl
theorem ml_EncoresLaw_121 : Cond.methodLink "EncoresLaw" 121 ⟨"Encores", "near", "(II)I"⟩ ∈ TB := tb_5 82 rfl rfl
theorem ml_EncoresLaw_124 : Cond.methodLink "EncoresLaw" 124 ⟨"EncoresModel", "near", "(II)I"⟩ ∈ TB := tb_7 233 rfl rfl
theorem ml_EncoresLaw_125 : Cond.methodLink "EncoresLaw" 125 ⟨"Encores", "means", "(II)Z"⟩ ∈ TB := tb_5 113 rfl rfl
theorem ml_EncoresLaw_128 : Cond.methodLink "EncoresLaw" 128 ⟨"EncoresModel", "means", "(II)Z"⟩ ∈ TB := tb_8 9 rfl rfl
theorem ml_EncoresLaw_129 : Cond.methodLink "EncoresLaw" 129 ⟨"Encores", "passed", "(III)I"⟩ ∈ TB := tb_5 117 rfl rfl
theorem ml_EncoresLaw_132 : Cond.methodLink "EncoresLaw" 132 ⟨"EncoresModel", "passed", "(III)I"⟩ ∈ TB := tb_8 13 rfl rfl
theorem ml_EncoresLaw_133 : Cond.methodLink "EncoresLaw" 133 ⟨"Encores", "share", "(II)I"⟩ ∈ TB := tb_5 70 rfl rfl
theorem ml_EncoresLaw_136 : Cond.methodLink "EncoresLaw" 136 ⟨"EncoresModel", "share", "(II)I"⟩ ∈ TB := tb_8 25 rfl rfl
theorem ml_EncoresLaw_137 : Cond.methodLink "EncoresLaw" 137 ⟨"Encores", "brides", "()I"⟩ ∈ TB := tb_5 65 rfl rfl
theorem ml_EncoresLaw_141 : Cond.methodLink "EncoresLaw" 141 ⟨"EncoresModel", "brides", "()I"⟩ ∈ TB := tb_8 37 rfl rfl
theorem ml_EncoresLaw_142 : Cond.methodLink "EncoresLaw" 142 ⟨"Encores", "game", "(I)I"⟩ ∈ TB := tb_5 22 rfl rfl
theorem ml_EncoresLaw_145 : Cond.methodLink "EncoresLaw" 145 ⟨"EncoresModel", "game", "(I)I"⟩ ∈ TB := tb_8 46 rfl rfl
theorem ml_EncoresLaw_146 : Cond.methodLink "EncoresLaw" 146 ⟨"Encores", "brakes", "(II)I"⟩ ∈ TB := tb_4 197 rfl rfl
theorem ml_EncoresLaw_149 : Cond.methodLink "EncoresLaw" 149 ⟨"EncoresModel", "brakes", "(II)I"⟩ ∈ TB := tb_7 155 rfl rfl
theorem ml_EncoresLaw_150 : Cond.methodLink "EncoresLaw" 150 ⟨"Encores", "eager", "(II)I"⟩ ∈ TB := tb_4 214 rfl rfl
theorem ml_EncoresLaw_153 : Cond.methodLink "EncoresLaw" 153 ⟨"EncoresModel", "eager", "(II)I"⟩ ∈ TB := tb_7 163 rfl rfl
theorem ml_EncoresLaw_154 : Cond.methodLink "EncoresLaw" 154 ⟨"Encores", "groups", "(I)I"⟩ ∈ TB := tb_5 109 rfl rfl
theorem ml_EncoresLaw_157 : Cond.methodLink "EncoresLaw" 157 ⟨"EncoresModel", "groups", "(I)I"⟩ ∈ TB := tb_8 5 rfl rfl
theorem ml_EncoresLaw_158 : Cond.methodLink "EncoresLaw" 158 ⟨"Encores", "price", "(II)I"⟩ ∈ TB := tb_4 218 rfl rfl
theorem ml_EncoresLaw_161 : Cond.methodLink "EncoresLaw" 161 ⟨"EncoresModel", "price", "(II)I"⟩ ∈ TB := tb_7 167 rfl rfl
theorem ml_EncoresLaw_162 : Cond.methodLink "EncoresLaw" 162 ⟨"Encores", "gain", "(I)I"⟩ ∈ TB := tb_4 201 rfl rfl
theorem ml_EncoresLaw_165 : Cond.methodLink "EncoresLaw" 165 ⟨"EncoresModel", "gain", "(I)I"⟩ ∈ TB := tb_7 171 rfl rfl
theorem ml_EncoresLaw_166 : Cond.methodLink "EncoresLaw" 166 ⟨"Encores", "bargain", "(I)I"⟩ ∈ TB := tb_5 18 rfl rfl
theorem ml_EncoresLaw_169 : Cond.methodLink "EncoresLaw" 169 ⟨"EncoresModel", "bargain", "(I)I"⟩ ∈ TB := tb_7 192 rfl rfl
theorem ml_EncoresLaw_170 : Cond.methodLink "EncoresLaw" 170 ⟨"Encores", "calm", "(I)I"⟩ ∈ TB := tb_4 206 rfl rfl
theorem ml_EncoresLaw_173 : Cond.methodLink "EncoresLaw" 173 ⟨"EncoresModel", "calm", "(I)I"⟩ ∈ TB := tb_7 196 rfl rfl
theorem ml_EncoresLaw_174 : Cond.methodLink "EncoresLaw" 174 ⟨"Encores", "tires", "(I)I"⟩ ∈ TB := tb_4 210 rfl rfl
theorem ml_EncoresLaw_177 : Cond.methodLink "EncoresLaw" 177 ⟨"EncoresModel", "tires", "(I)I"⟩ ∈ TB := tb_7 176 rfl rfl
theorem ml_EncoresLaw_178 : Cond.methodLink "EncoresLaw" 178 ⟨"Encores", "undo", "()Z"⟩ ∈ TB := tb_5 129 rfl rfl
theorem ml_EncoresLaw_182 : Cond.methodLink "EncoresLaw" 182 ⟨"EncoresModel", "undo", "()Z"⟩ ∈ TB := tb_6 224 rfl rfl
theorem ml_EncoresLaw_183 : Cond.methodLink "EncoresLaw" 183 ⟨"Encores", "image", "(Z)Z"⟩ ∈ TB := tb_5 138 rfl rfl
theorem ml_EncoresLaw_187 : Cond.methodLink "EncoresLaw" 187 ⟨"EncoresModel", "image", "(Z)Z"⟩ ∈ TB := tb_8 54 rfl rfl
theorem ml_EncoresLaw_188 : Cond.methodLink "EncoresLaw" 188 ⟨"Encores", "look", "(I)I"⟩ ∈ TB := tb_4 123 rfl rfl
theorem ml_EncoresLaw_191 : Cond.methodLink "EncoresLaw" 191 ⟨"EncoresModel", "look", "(I)I"⟩ ∈ TB := tb_8 58 rfl rfl
theorem ml_EncoresModel_56 : Cond.methodLink "EncoresModel" 56 ⟨"EncoresModel", "isIn", "(III)Z"⟩ ∈ TB := tb_6 30 rfl rfl
theorem ml_EncoresModel_63 : Cond.methodLink "EncoresModel" 63 ⟨"EncoresModel", "forgets", "()V"⟩ ∈ TB := tb_6 22 rfl rfl
theorem ml_EncoresModel_68 : Cond.methodLink "EncoresModel" 68 ⟨"EncoresModel", "isHearer", "(I)Z"⟩ ∈ TB := tb_6 45 rfl rfl
theorem ml_EncoresModel_72 : Cond.methodLink "EncoresModel" 72 ⟨"EncoresModel", "isDeed", "(I)Z"⟩ ∈ TB := tb_6 49 rfl rfl
theorem ml_EncoresModel_75 : Cond.methodLink "EncoresModel" 75 ⟨"EncoresModel", "canSet", "(III)Z"⟩ ∈ TB := tb_6 41 rfl rfl
theorem ml_EncoresModel_87 : Cond.methodLink "EncoresModel" 87 ⟨"java/lang/String", "length", "()I"⟩ ∈ TB := tb_6 89 rfl rfl
theorem ml_EncoresModel_93 : Cond.methodLink "EncoresModel" 93 ⟨"java/lang/String", "charAt", "(I)C"⟩ ∈ TB := tb_6 90 rfl rfl
theorem ml_EncoresModel_99 : Cond.methodLink "EncoresModel" 99 ⟨"EncoresModel", "is", "(Ljava/lang/String;)Z"⟩ ∈ TB := tb_6 85 rfl rfl
theorem ml_EncoresModel_135 : Cond.methodLink "EncoresModel" 135 ⟨"EncoresModel", "asked", "()I"⟩ ∈ TB := tb_6 97 rfl rfl
theorem ml_EncoresModel_149 : Cond.methodLink "EncoresModel" 149 ⟨"EncoresModel", "lawWord", "()I"⟩ ∈ TB := tb_6 80 rfl rfl
theorem ml_EncoresModel_152 : Cond.methodLink "EncoresModel" 152 ⟨"EncoresModel", "statuteWord", "()I"⟩ ∈ TB := tb_6 111 rfl rfl
theorem ml_EncoresModel_158 : Cond.methodLink "EncoresModel" 158 ⟨"EncoresModel", "see", "(I)I"⟩ ∈ TB := tb_6 69 rfl rfl
theorem ml_EncoresModel_165 : Cond.methodLink "EncoresModel" 165 ⟨"EncoresModel", "isLetter", "(I)Z"⟩ ∈ TB := tb_6 73 rfl rfl
theorem ml_EncoresModel_168 : Cond.methodLink "EncoresModel" 168 ⟨"EncoresModel", "word", "()I"⟩ ∈ TB := tb_6 76 rfl rfl
theorem ml_EncoresModel_171 : Cond.methodLink "EncoresModel" 171 ⟨"EncoresModel", "isDigit", "(I)Z"⟩ ∈ TB := tb_6 121 rfl rfl
theorem ml_EncoresModel_183 : Cond.methodLink "EncoresModel" 183 ⟨"EncoresModel", "bad", "(I)Z"⟩ ∈ TB := tb_6 132 rfl rfl
theorem ml_EncoresModel_186 : Cond.methodLink "EncoresModel" 186 ⟨"EncoresModel", "next0", "()V"⟩ ∈ TB := tb_6 65 rfl rfl
theorem ml_EncoresModel_195 : Cond.methodLink "EncoresModel" 195 ⟨"EncoresModel", "product", "()Z"⟩ ∈ TB := tb_6 140 rfl rfl
theorem ml_EncoresModel_199 : Cond.methodLink "EncoresModel" 199 ⟨"EncoresModel", "lay", "(II)V"⟩ ∈ TB := tb_6 148 rfl rfl
theorem ml_EncoresModel_203 : Cond.methodLink "EncoresModel" 203 ⟨"EncoresModel", "unit", "()Z"⟩ ∈ TB := tb_6 144 rfl rfl
theorem ml_EncoresModel_206 : Cond.methodLink "EncoresModel" 206 ⟨"EncoresModel", "every", "()Z"⟩ ∈ TB := tb_6 156 rfl rfl
theorem ml_EncoresModel_209 : Cond.methodLink "EncoresModel" 209 ⟨"EncoresModel", "oneTest", "()Z"⟩ ∈ TB := tb_6 160 rfl rfl
theorem ml_EncoresModel_212 : Cond.methodLink "EncoresModel" 212 ⟨"EncoresModel", "opens", "()Z"⟩ ∈ TB := tb_6 164 rfl rfl
theorem ml_EncoresModel_215 : Cond.methodLink "EncoresModel" 215 ⟨"EncoresModel", "any", "()Z"⟩ ∈ TB := tb_6 152 rfl rfl
theorem ml_EncoresModel_218 : Cond.methodLink "EncoresModel" 218 ⟨"EncoresModel", "need", "(I)Z"⟩ ∈ TB := tb_6 168 rfl rfl
theorem ml_EncoresModel_221 : Cond.methodLink "EncoresModel" 221 ⟨"EncoresModel", "sumUp", "()Z"⟩ ∈ TB := tb_6 136 rfl rfl
theorem ml_EncoresModel_227 : Cond.methodLink "EncoresModel" 227 ⟨"EncoresModel", "aLine", "()Z"⟩ ∈ TB := tb_6 128 rfl rfl
theorem ml_EncoresModel_230 : Cond.methodLink "EncoresModel" 230 ⟨"EncoresModel", "number", "(III)Z"⟩ ∈ TB := tb_6 188 rfl rfl
theorem ml_EncoresModel_236 : Cond.methodLink "EncoresModel" 236 ⟨"EncoresModel", "told", "(IIII)Z"⟩ ∈ TB := tb_6 192 rfl rfl
theorem ml_EncoresModel_240 : Cond.methodLink "EncoresModel" 240 ⟨"EncoresModel", "aRule", "()Z"⟩ ∈ TB := tb_6 184 rfl rfl
theorem ml_EncoresModel_243 : Cond.methodLink "EncoresModel" 243 ⟨"EncoresModel", "aPiece", "()Z"⟩ ∈ TB := tb_6 196 rfl rfl
theorem ml_EncoresModel_246 : Cond.methodLink "EncoresModel" 246 ⟨"EncoresModel", "aSeat", "()Z"⟩ ∈ TB := tb_6 200 rfl rfl
theorem ml_EncoresModel_249 : Cond.methodLink "EncoresModel" 249 ⟨"EncoresModel", "begins", "()Z"⟩ ∈ TB := tb_6 176 rfl rfl
theorem ml_EncoresModel_252 : Cond.methodLink "EncoresModel" 252 ⟨"EncoresModel", "aRow", "()Z"⟩ ∈ TB := tb_6 180 rfl rfl
theorem ml_EncoresModel_255 : Cond.methodLink "EncoresModel" 255 ⟨"EncoresModel", "putsLaw", "()I"⟩ ∈ TB := tb_6 208 rfl rfl
theorem ml_EncoresModel_258 : Cond.methodLink "EncoresModel" 258 ⟨"EncoresModel", "puts", "(III)I"⟩ ∈ TB := tb_6 212 rfl rfl
theorem ml_EncoresModel_262 : Cond.methodLink "EncoresModel" 262 ⟨"EncoresModel", "putsGallery", "()I"⟩ ∈ TB := tb_6 216 rfl rfl
theorem ml_EncoresModel_268 : Cond.methodLink "EncoresModel" 268 ⟨"EncoresModel", "readsLaw", "()Z"⟩ ∈ TB := tb_6 124 rfl rfl
theorem ml_EncoresModel_271 : Cond.methodLink "EncoresModel" 271 ⟨"EncoresModel", "readsRows", "()Z"⟩ ∈ TB := tb_6 172 rfl rfl
theorem ml_EncoresModel_274 : Cond.methodLink "EncoresModel" 274 ⟨"EncoresModel", "putsText", "(I)I"⟩ ∈ TB := tb_6 204 rfl rfl
theorem ml_EncoresModel_277 : Cond.methodLink "EncoresModel" 277 ⟨"EncoresModel", "both", "(III)I"⟩ ∈ TB := tb_7 24 rfl rfl
theorem ml_EncoresModel_280 : Cond.methodLink "EncoresModel" 280 ⟨"EncoresModel", "comesTo", "(III)I"⟩ ∈ TB := tb_7 20 rfl rfl
theorem ml_EncoresModel_283 : Cond.methodLink "EncoresModel" 283 ⟨"EncoresModel", "isSo", "(I)Z"⟩ ∈ TB := tb_7 16 rfl rfl
theorem ml_EncoresModel_286 : Cond.methodLink "EncoresModel" 286 ⟨"EncoresModel", "lesser", "(II)I"⟩ ∈ TB := tb_7 27 rfl rfl
theorem ml_EncoresModel_290 : Cond.methodLink "EncoresModel" 290 ⟨"EncoresModel", "greater", "(II)I"⟩ ∈ TB := tb_7 30 rfl rfl
theorem ml_EncoresModel_293 : Cond.methodLink "EncoresModel" 293 ⟨"EncoresModel", "laysDeed", "(I)V"⟩ ∈ TB := tb_7 8 rfl rfl
theorem ml_EncoresModel_297 : Cond.methodLink "EncoresModel" 297 ⟨"EncoresModel", "says", "(III)I"⟩ ∈ TB := tb_7 12 rfl rfl
theorem ml_EncoresModel_300 : Cond.methodLink "EncoresModel" 300 ⟨"EncoresModel", "lastRule", "(II)I"⟩ ∈ TB := tb_7 86 rfl rfl
theorem ml_EncoresModel_307 : Cond.methodLink "EncoresModel" 307 ⟨"EncoresModel", "wearsOf", "(I)I"⟩ ∈ TB := tb_7 4 rfl rfl
theorem ml_EncoresModel_310 : Cond.methodLink "EncoresModel" 310 ⟨"EncoresModel", "isThere", "(I)Z"⟩ ∈ TB := tb_7 37 rfl rfl
theorem ml_EncoresModel_313 : Cond.methodLink "EncoresModel" 313 ⟨"EncoresModel", "isGloved", "(I)Z"⟩ ∈ TB := tb_7 51 rfl rfl
theorem ml_EncoresModel_319 : Cond.methodLink "EncoresModel" 319 ⟨"EncoresModel", "count", "(I)I"⟩ ∈ TB := tb_7 55 rfl rfl
theorem ml_EncoresModel_322 : Cond.methodLink "EncoresModel" 322 ⟨"EncoresModel", "clapOf", "(III)I"⟩ ∈ TB := tb_7 58 rfl rfl
theorem ml_EncoresModel_325 : Cond.methodLink "EncoresModel" 325 ⟨"EncoresModel", "countsAs", "(I)I"⟩ ∈ TB := tb_7 74 rfl rfl
theorem ml_EncoresModel_328 : Cond.methodLink "EncoresModel" 328 ⟨"EncoresModel", "draw", "(I)I"⟩ ∈ TB := tb_7 41 rfl rfl
theorem ml_EncoresModel_334 : Cond.methodLink "EncoresModel" 334 ⟨"EncoresModel", "aRound", "(I)Z"⟩ ∈ TB := tb_7 47 rfl rfl
theorem ml_EncoresModel_337 : Cond.methodLink "EncoresModel" 337 ⟨"EncoresModel", "notes", "(III)V"⟩ ∈ TB := tb_7 62 rfl rfl
theorem ml_EncoresModel_341 : Cond.methodLink "EncoresModel" 341 ⟨"EncoresModel", "loudOf", "(I)I"⟩ ∈ TB := tb_7 66 rfl rfl
theorem ml_EncoresModel_344 : Cond.methodLink "EncoresModel" 344 ⟨"EncoresModel", "handsClapping", "()I"⟩ ∈ TB := tb_7 70 rfl rfl
theorem ml_EncoresModel_349 : Cond.methodLink "EncoresModel" 349 ⟨"EncoresModel", "handsAsked", "()I"⟩ ∈ TB := tb_7 78 rfl rfl
theorem ml_EncoresModel_352 : Cond.methodLink "EncoresModel" 352 ⟨"EncoresModel", "mostAgains", "()I"⟩ ∈ TB := tb_7 82 rfl rfl
theorem ml_EncoresModel_355 : Cond.methodLink "EncoresModel" 355 ⟨"EncoresModel", "endsAt", "()I"⟩ ∈ TB := tb_7 90 rfl rfl
theorem ml_EncoresModel_361 : Cond.methodLink "EncoresModel" 361 ⟨"EncoresModel", "begins0", "(I)V"⟩ ∈ TB := tb_7 0 rfl rfl
theorem ml_EncoresModel_364 : Cond.methodLink "EncoresModel" 364 ⟨"EncoresModel", "claps", "(I)V"⟩ ∈ TB := tb_7 33 rfl rfl
theorem ml_EncoresModel_367 : Cond.methodLink "EncoresModel" 367 ⟨"EncoresModel", "keeps", "()V"⟩ ∈ TB := tb_6 232 rfl rfl
theorem ml_EncoresModel_370 : Cond.methodLink "EncoresModel" 370 ⟨"EncoresModel", "does", "(I)I"⟩ ∈ TB := tb_6 236 rfl rfl
theorem ml_EncoresModel_373 : Cond.methodLink "EncoresModel" 373 ⟨"EncoresModel", "anEvening", "()I"⟩ ∈ TB := tb_7 110 rfl rfl
theorem ml_EncoresModel_377 : Cond.methodLink "EncoresModel" 377 ⟨"EncoresModel", "lays", "()V"⟩ ∈ TB := tb_7 135 rfl rfl
theorem ml_EncoresModel_380 : Cond.methodLink "EncoresModel" 380 ⟨"EncoresModel", "putsBack", "()V"⟩ ∈ TB := tb_7 139 rfl rfl
theorem ml_EncoresModel_383 : Cond.methodLink "EncoresModel" 383 ⟨"EncoresModel", "doneWithout", "(II)I"⟩ ∈ TB := tb_7 151 rfl rfl
theorem ml_EncoresModel_386 : Cond.methodLink "EncoresModel" 386 ⟨"EncoresModel", "doneWithGloves", "(II)I"⟩ ∈ TB := tb_7 159 rfl rfl
theorem ml_EncoresModel_389 : Cond.methodLink "EncoresModel" 389 ⟨"EncoresModel", "settles", "(II)I"⟩ ∈ TB := tb_7 175 rfl rfl
theorem ml_EncoresModel_392 : Cond.methodLink "EncoresModel" 392 ⟨"EncoresModel", "longOf", "(I)I"⟩ ∈ TB := tb_7 184 rfl rfl
theorem ml_EncoresModel_395 : Cond.methodLink "EncoresModel" 395 ⟨"EncoresModel", "worthOf", "(I)I"⟩ ∈ TB := tb_7 188 rfl rfl
theorem ml_EncoresModel_399 : Cond.methodLink "EncoresModel" 399 ⟨"EncoresModel", "laysLines", "()V"⟩ ∈ TB := tb_7 204 rfl rfl
theorem ml_EncoresModel_402 : Cond.methodLink "EncoresModel" 402 ⟨"EncoresModel", "leastWith", "(II)I"⟩ ∈ TB := tb_7 209 rfl rfl
theorem ml_EncoresModel_405 : Cond.methodLink "EncoresModel" 405 ⟨"EncoresModel", "allHearers", "()I"⟩ ∈ TB := tb_7 217 rfl rfl
theorem ml_EncoresModel_408 : Cond.methodLink "EncoresModel" 408 ⟨"EncoresModel", "couldBe", "(I)Z"⟩ ∈ TB := tb_7 225 rfl rfl
theorem ml_EncoresModel_411 : Cond.methodLink "EncoresModel" 411 ⟨"EncoresModel", "bestAsked", "(I)I"⟩ ∈ TB := tb_7 229 rfl rfl
theorem ml_EncoresModel_414 : Cond.methodLink "EncoresModel" 414 ⟨"EncoresModel", "nearTo", "(III)I"⟩ ∈ TB := tb_7 237 rfl rfl
theorem ml_EncoresModel_417 : Cond.methodLink "EncoresModel" 417 ⟨"EncoresModel", "passedBy", "(II)I"⟩ ∈ TB := tb_8 17 rfl rfl
theorem ml_EncoresModel_420 : Cond.methodLink "EncoresModel" 420 ⟨"EncoresModel", "wasThere", "(II)I"⟩ ∈ TB := tb_8 21 rfl rfl
theorem ml_EncoresModel_423 : Cond.methodLink "EncoresModel" 423 ⟨"EncoresModel", "weightOf", "(I)I"⟩ ∈ TB := tb_8 33 rfl rfl
theorem ml_EncoresModel_426 : Cond.methodLink "EncoresModel" 426 ⟨"EncoresModel", "allWeights", "()I"⟩ ∈ TB := tb_8 29 rfl rfl
theorem ml_EncoresModel_429 : Cond.methodLink "EncoresModel" 429 ⟨"EncoresModel", "paidOnes", "()I"⟩ ∈ TB := tb_8 41 rfl rfl
theorem ml_EncoresModel_434 : Cond.methodLink "EncoresModel" 434 ⟨"EncoresModel", "laysNims", "()V"⟩ ∈ TB := tb_8 50 rfl rfl
theorem ml_java_lang_String_335 : Cond.methodLink "java/lang/String" 335 ⟨"java/lang/String", "coder", "()B"⟩ ∈ TB := tb_3 196 rfl rfl
theorem ml_java_lang_String_492 : Cond.methodLink "java/lang/String" 492 ⟨"java/lang/String", "isLatin1", "()Z"⟩ ∈ TB := tb_3 206 rfl rfl
theorem ml_java_lang_String_495 : Cond.methodLink "java/lang/String" 495 ⟨"java/lang/StringLatin1", "charAt", "([BI)C"⟩ ∈ TB := tb_3 210 rfl rfl
theorem ml_java_lang_String_498 : Cond.methodLink "java/lang/String" 498 ⟨"java/lang/StringUTF16", "charAt", "([BI)C"⟩ ∈ TB := tb_3 221 rfl rfl
theorem ml_java_lang_String_1059 : Cond.methodLink "java/lang/String" 1059 ⟨"jdk/internal/util/Preconditions", "checkIndex", "(IILjava/util/function/BiFunction;)I"⟩ ∈ TB := tb_3 218 rfl rfl
theorem ml_java_lang_StringLatin1_9 : Cond.methodLink "java/lang/StringLatin1" 9 ⟨"java/lang/String", "checkIndex", "(II)V"⟩ ∈ TB := tb_3 213 rfl rfl
theorem ml_java_lang_StringUTF16_48 : Cond.methodLink "java/lang/StringUTF16" 48 ⟨"java/lang/StringUTF16", "length", "([B)I"⟩ ∈ TB := tb_3 227 rfl rfl
theorem ml_java_lang_StringUTF16_67 : Cond.methodLink "java/lang/StringUTF16" 67 ⟨"java/lang/StringUTF16", "checkIndex", "(I[B)V"⟩ ∈ TB := tb_3 224 rfl rfl
theorem ml_java_lang_StringUTF16_71 : Cond.methodLink "java/lang/StringUTF16" 71 ⟨"java/lang/StringUTF16", "getChar", "([BI)C"⟩ ∈ TB := tb_3 231 rfl rfl
theorem ml_java_lang_StringUTF16_414 : Cond.methodLink "java/lang/StringUTF16" 414 ⟨"java/lang/String", "checkIndex", "(II)V"⟩ ∈ TB := tb_3 230 rfl rfl
theorem fl_Encores_9 : Cond.fieldLink "Encores" 9 "Encores" "with" "[I" ∈ TB := tb_2 127 rfl rfl
theorem fl_Encores_16 : Cond.fieldLink "Encores" 16 "Encores" "house" "LEncores$House;" ∈ TB := tb_2 115 rfl rfl
theorem fl_Encores_20 : Cond.fieldLink "Encores" 20 "Encores" "image" "LEncores$House;" ∈ TB := tb_2 116 rfl rfl
theorem fl_Encores_23 : Cond.fieldLink "Encores" 23 "Encores" "imageTaken" "Z" ∈ TB := tb_2 117 rfl rfl
theorem fl_Encores_30 : Cond.fieldLink "Encores" 30 "Encores" "past" "LEncores$Past;" ∈ TB := tb_2 118 rfl rfl
theorem fl_Encores_37 : Cond.fieldLink "Encores" 37 "Encores" "before" "LEncores$Moment;" ∈ TB := tb_2 119 rfl rfl
theorem fl_Encores_44 : Cond.fieldLink "Encores" 44 "Encores" "tape" "LEncores$Tape;" ∈ TB := tb_2 120 rfl rfl
theorem fl_Encores_53 : Cond.fieldLink "Encores" 53 "Encores" "reader" "LEncores$Reader;" ∈ TB := tb_2 121 rfl rfl
theorem fl_Encores_62 : Cond.fieldLink "Encores" 62 "Encores" "law" "LEncores$Law;" ∈ TB := tb_2 122 rfl rfl
theorem fl_Encores_71 : Cond.fieldLink "Encores" 71 "Encores" "stage" "LEncores$Stage;" ∈ TB := tb_2 123 rfl rfl
theorem fl_Encores_80 : Cond.fieldLink "Encores" 80 "Encores" "fewest" "LEncores$Fewest;" ∈ TB := tb_2 124 rfl rfl
theorem fl_Encores_87 : Cond.fieldLink "Encores" 87 "Encores" "seats" "LEncores$Seats;" ∈ TB := tb_2 125 rfl rfl
theorem fl_Encores_94 : Cond.fieldLink "Encores" 94 "Encores" "programme" "LEncores$Programme;" ∈ TB := tb_2 126 rfl rfl
theorem fl_Encores_113 : Cond.fieldLink "Encores" 113 "Encores$House" "hearers" "LEncores$Table;" ∈ TB := tb_1 79 rfl rfl
theorem fl_Encores_117 : Cond.fieldLink "Encores" 117 "Encores$Table" "lines" "I" ∈ TB := tb_1 54 rfl rfl
theorem fl_Encores_131 : Cond.fieldLink "Encores" 131 "Encores$House" "deeds" "LEncores$Table;" ∈ TB := tb_1 86 rfl rfl
theorem fl_Encores_175 : Cond.fieldLink "Encores" 175 "Encores$Tape" "length" "I" ∈ TB := tb_1 186 rfl rfl
theorem fl_Encores_181 : Cond.fieldLink "Encores" 181 "Encores$Reader" "fault" "I" ∈ TB := tb_1 223 rfl rfl
theorem fl_Encores_184 : Cond.fieldLink "Encores" 184 "Encores$Reader" "lines" "LEncores$Table;" ∈ TB := tb_1 219 rfl rfl
theorem fl_Encores_186 : Cond.fieldLink "Encores" 186 "Encores$Reader" "code" "LEncores$Table;" ∈ TB := tb_1 221 rfl rfl
theorem fl_Encores_193 : Cond.fieldLink "Encores" 193 "Encores$Reader" "faultPlace" "I" ∈ TB := tb_1 225 rfl rfl
theorem fl_Encores_212 : Cond.fieldLink "Encores" 212 "Encores$House" "book" "LEncores$Table;" ∈ TB := tb_1 94 rfl rfl
theorem fl_Encores_218 : Cond.fieldLink "Encores" 218 "Encores$House" "laws" "LEncores$Table;" ∈ TB := tb_1 97 rfl rfl
theorem fl_Encores_221 : Cond.fieldLink "Encores" 221 "Encores$House" "statute" "LEncores$Table;" ∈ TB := tb_1 101 rfl rfl
theorem fl_Encores_224 : Cond.fieldLink "Encores" 224 "Encores$House" "programme" "LEncores$Table;" ∈ TB := tb_1 104 rfl rfl
theorem fl_Encores_226 : Cond.fieldLink "Encores" 226 "Encores$House" "gallery" "LEncores$Table;" ∈ TB := tb_1 106 rfl rfl
theorem fl_Encores_229 : Cond.fieldLink "Encores" 229 "Encores$House" "claque" "LEncores$Table;" ∈ TB := tb_1 108 rfl rfl
theorem fl_Encores_232 : Cond.fieldLink "Encores" 232 "Encores$Past" "many" "I" ∈ TB := tb_1 165 rfl rfl
theorem fl_Encores_237 : Cond.fieldLink "Encores" 237 "Encores$Stage" "thinking" "Z" ∈ TB := tb_2 45 rfl rfl
theorem fl_Encores_246 : Cond.fieldLink "Encores" 246 "Encores$Stage" "clapping" "I" ∈ TB := tb_2 47 rfl rfl
theorem fl_Encores_249 : Cond.fieldLink "Encores" 249 "Encores$Stage" "rounds" "I" ∈ TB := tb_2 49 rfl rfl
theorem fl_Encores_335 : Cond.fieldLink "Encores" 335 "Encores$House" "means" "LEncores$Table;" ∈ TB := tb_1 110 rfl rfl
theorem fl_Encores_Fewest_14 : Cond.fieldLink "Encores$Fewest" 14 "Encores$Fewest" "claps" "LEncores$Table;" ∈ TB := tb_2 76 rfl rfl
theorem fl_Encores_Fewest_20 : Cond.fieldLink "Encores$Fewest" 20 "Encores$Fewest" "due" "LEncores$Table;" ∈ TB := tb_2 77 rfl rfl
theorem fl_Encores_Fewest_23 : Cond.fieldLink "Encores$Fewest" 23 "Encores$Fewest" "house" "LEncores$House;" ∈ TB := tb_2 73 rfl rfl
theorem fl_Encores_Fewest_27 : Cond.fieldLink "Encores$Fewest" 27 "Encores$Fewest" "law" "LEncores$Law;" ∈ TB := tb_2 74 rfl rfl
theorem fl_Encores_Fewest_31 : Cond.fieldLink "Encores$Fewest" 31 "Encores$Fewest" "stage" "LEncores$Stage;" ∈ TB := tb_2 75 rfl rfl
theorem fl_Encores_Fewest_35 : Cond.fieldLink "Encores$Fewest" 35 "Encores$Table" "lines" "I" ∈ TB := tb_1 48 rfl rfl
theorem fl_Encores_Fewest_39 : Cond.fieldLink "Encores$Fewest" 39 "Encores$Fewest" "ready" "I" ∈ TB := tb_2 78 rfl rfl
theorem fl_Encores_Fewest_42 : Cond.fieldLink "Encores$Fewest" 42 "Encores$Fewest" "hopeless" "Z" ∈ TB := tb_2 79 rfl rfl
theorem fl_Encores_Fewest_83 : Cond.fieldLink "Encores$Fewest" 83 "Encores$House" "hearers" "LEncores$Table;" ∈ TB := tb_1 80 rfl rfl
theorem fl_Encores_House_14 : Cond.fieldLink "Encores$House" 14 "Encores$House" "hearers" "LEncores$Table;" ∈ TB := tb_1 76 rfl rfl
theorem fl_Encores_House_20 : Cond.fieldLink "Encores$House" 20 "Encores$House" "deeds" "LEncores$Table;" ∈ TB := tb_1 83 rfl rfl
theorem fl_Encores_House_23 : Cond.fieldLink "Encores$House" 23 "Encores$House" "hour" "LEncores$Table;" ∈ TB := tb_1 89 rfl rfl
theorem fl_Encores_House_26 : Cond.fieldLink "Encores$House" 26 "Encores$House" "book" "LEncores$Table;" ∈ TB := tb_1 92 rfl rfl
theorem fl_Encores_House_29 : Cond.fieldLink "Encores$House" 29 "Encores$House" "laws" "LEncores$Table;" ∈ TB := tb_1 95 rfl rfl
theorem fl_Encores_House_32 : Cond.fieldLink "Encores$House" 32 "Encores$House" "code" "LEncores$Table;" ∈ TB := tb_1 98 rfl rfl
theorem fl_Encores_House_35 : Cond.fieldLink "Encores$House" 35 "Encores$House" "statute" "LEncores$Table;" ∈ TB := tb_1 100 rfl rfl
theorem fl_Encores_House_38 : Cond.fieldLink "Encores$House" 38 "Encores$House" "programme" "LEncores$Table;" ∈ TB := tb_1 102 rfl rfl
theorem fl_Encores_House_41 : Cond.fieldLink "Encores$House" 41 "Encores$House" "gallery" "LEncores$Table;" ∈ TB := tb_1 105 rfl rfl
theorem fl_Encores_House_44 : Cond.fieldLink "Encores$House" 44 "Encores$House" "claque" "LEncores$Table;" ∈ TB := tb_1 107 rfl rfl
theorem fl_Encores_House_47 : Cond.fieldLink "Encores$House" 47 "Encores$House" "means" "LEncores$Table;" ∈ TB := tb_1 109 rfl rfl
theorem fl_Encores_House_66 : Cond.fieldLink "Encores$House" 66 "Encores$Table" "lines" "I" ∈ TB := tb_1 56 rfl rfl
theorem fl_Encores_Law_9 : Cond.fieldLink "Encores$Law" 9 "Encores$Law" "asked" "[I" ∈ TB := tb_2 25 rfl rfl
theorem fl_Encores_Law_15 : Cond.fieldLink "Encores$Law" 15 "Encores$Law" "stack" "[I" ∈ TB := tb_2 26 rfl rfl
theorem fl_Encores_Law_18 : Cond.fieldLink "Encores$Law" 18 "Encores$Law" "house" "LEncores$House;" ∈ TB := tb_2 24 rfl rfl
theorem fl_Encores_Law_34 : Cond.fieldLink "Encores$Law" 34 "Encores$House" "hearers" "LEncores$Table;" ∈ TB := tb_1 81 rfl rfl
theorem fl_Encores_Law_50 : Cond.fieldLink "Encores$Law" 50 "Encores$House" "deeds" "LEncores$Table;" ∈ TB := tb_1 88 rfl rfl
theorem fl_Encores_Law_53 : Cond.fieldLink "Encores$Law" 53 "Encores$House" "hour" "LEncores$Table;" ∈ TB := tb_1 91 rfl rfl
theorem fl_Encores_Law_56 : Cond.fieldLink "Encores$Law" 56 "Encores$House" "laws" "LEncores$Table;" ∈ TB := tb_1 96 rfl rfl
theorem fl_Encores_Law_59 : Cond.fieldLink "Encores$Law" 59 "Encores$Table" "lines" "I" ∈ TB := tb_1 57 rfl rfl
theorem fl_Encores_Law_80 : Cond.fieldLink "Encores$Law" 80 "Encores$House" "code" "LEncores$Table;" ∈ TB := tb_1 99 rfl rfl
theorem fl_Encores_Moment_14 : Cond.fieldLink "Encores$Moment" 14 "Encores$Moment" "hearers" "LEncores$Table;" ∈ TB := tb_1 149 rfl rfl
theorem fl_Encores_Moment_20 : Cond.fieldLink "Encores$Moment" 20 "Encores$Moment" "deeds" "LEncores$Table;" ∈ TB := tb_1 150 rfl rfl
theorem fl_Encores_Moment_23 : Cond.fieldLink "Encores$Moment" 23 "Encores$Moment" "hour" "LEncores$Table;" ∈ TB := tb_1 151 rfl rfl
theorem fl_Encores_Moment_26 : Cond.fieldLink "Encores$Moment" 26 "Encores$House" "hearers" "LEncores$Table;" ∈ TB := tb_1 77 rfl rfl
theorem fl_Encores_Moment_33 : Cond.fieldLink "Encores$Moment" 33 "Encores$House" "deeds" "LEncores$Table;" ∈ TB := tb_1 85 rfl rfl
theorem fl_Encores_Moment_34 : Cond.fieldLink "Encores$Moment" 34 "Encores$House" "hour" "LEncores$Table;" ∈ TB := tb_1 90 rfl rfl
theorem fl_Encores_Moment_35 : Cond.fieldLink "Encores$Moment" 35 "Encores$House" "book" "LEncores$Table;" ∈ TB := tb_1 93 rfl rfl
theorem fl_Encores_Moment_38 : Cond.fieldLink "Encores$Moment" 38 "Encores$Table" "lines" "I" ∈ TB := tb_1 52 rfl rfl
theorem fl_Encores_Moment_42 : Cond.fieldLink "Encores$Moment" 42 "Encores$Moment" "booked" "I" ∈ TB := tb_1 152 rfl rfl
theorem fl_Encores_Past_11 : Cond.fieldLink "Encores$Past" 11 "Encores$Past" "moments" "[LEncores$Moment;" ∈ TB := tb_1 162 rfl rfl
theorem fl_Encores_Past_18 : Cond.fieldLink "Encores$Past" 18 "Encores$Past" "next" "I" ∈ TB := tb_1 163 rfl rfl
theorem fl_Encores_Past_30 : Cond.fieldLink "Encores$Past" 30 "Encores$Past" "many" "I" ∈ TB := tb_1 164 rfl rfl
theorem fl_Encores_Programme_9 : Cond.fieldLink "Encores$Programme" 9 "Encores$Programme" "house" "LEncores$House;" ∈ TB := tb_2 111 rfl rfl
theorem fl_Encores_Programme_15 : Cond.fieldLink "Encores$Programme" 15 "Encores$House" "deeds" "LEncores$Table;" ∈ TB := tb_1 84 rfl rfl
theorem fl_Encores_Programme_21 : Cond.fieldLink "Encores$Programme" 21 "Encores$Table" "lines" "I" ∈ TB := tb_1 50 rfl rfl
theorem fl_Encores_Reader_14 : Cond.fieldLink "Encores$Reader" 14 "Encores$Reader" "lines" "LEncores$Table;" ∈ TB := tb_1 218 rfl rfl
theorem fl_Encores_Reader_20 : Cond.fieldLink "Encores$Reader" 20 "Encores$Reader" "code" "LEncores$Table;" ∈ TB := tb_1 220 rfl rfl
theorem fl_Encores_Reader_23 : Cond.fieldLink "Encores$Reader" 23 "Encores$Reader" "waiting" "LEncores$Table;" ∈ TB := tb_1 226 rfl rfl
theorem fl_Encores_Reader_26 : Cond.fieldLink "Encores$Reader" 26 "Encores$Reader" "tape" "LEncores$Tape;" ∈ TB := tb_1 217 rfl rfl
theorem fl_Encores_Reader_30 : Cond.fieldLink "Encores$Reader" 30 "Encores$Reader" "fault" "I" ∈ TB := tb_1 222 rfl rfl
theorem fl_Encores_Reader_34 : Cond.fieldLink "Encores$Reader" 34 "Encores$Reader" "faultPlace" "I" ∈ TB := tb_1 224 rfl rfl
theorem fl_Encores_Reader_37 : Cond.fieldLink "Encores$Reader" 37 "Encores$Table" "lines" "I" ∈ TB := tb_1 51 rfl rfl
theorem fl_Encores_Reader_39 : Cond.fieldLink "Encores$Reader" 39 "Encores$Reader" "hearers" "I" ∈ TB := tb_1 231 rfl rfl
theorem fl_Encores_Reader_42 : Cond.fieldLink "Encores$Reader" 42 "Encores$Reader" "deeds" "I" ∈ TB := tb_1 232 rfl rfl
theorem fl_Encores_Reader_54 : Cond.fieldLink "Encores$Reader" 54 "Encores$Tape" "kind" "I" ∈ TB := tb_1 187 rfl rfl
theorem fl_Encores_Reader_68 : Cond.fieldLink "Encores$Reader" 68 "Encores$Reader" "line" "I" ∈ TB := tb_1 230 rfl rfl
theorem fl_Encores_Reader_95 : Cond.fieldLink "Encores$Reader" 95 "Encores$Tape" "number" "I" ∈ TB := tb_1 192 rfl rfl
theorem fl_Encores_Reader_101 : Cond.fieldLink "Encores$Reader" 101 "Encores$Tape" "place" "I" ∈ TB := tb_1 190 rfl rfl
theorem fl_Encores_Reader_104 : Cond.fieldLink "Encores$Reader" 104 "Encores$Reader" "open" "I" ∈ TB := tb_1 227 rfl rfl
theorem fl_Encores_Reader_107 : Cond.fieldLink "Encores$Reader" 107 "Encores$Reader" "brackets" "I" ∈ TB := tb_1 228 rfl rfl
theorem fl_Encores_Reader_110 : Cond.fieldLink "Encores$Reader" 110 "Encores$Reader" "side" "I" ∈ TB := tb_1 229 rfl rfl
theorem fl_Encores_Seats_9 : Cond.fieldLink "Encores$Seats" 9 "Encores$Seats" "house" "LEncores$House;" ∈ TB := tb_2 101 rfl rfl
theorem fl_Encores_Seats_15 : Cond.fieldLink "Encores$Seats" 15 "Encores$House" "hearers" "LEncores$Table;" ∈ TB := tb_1 78 rfl rfl
theorem fl_Encores_Seats_21 : Cond.fieldLink "Encores$Seats" 21 "Encores$Table" "lines" "I" ∈ TB := tb_1 49 rfl rfl
theorem fl_Encores_Stage_9 : Cond.fieldLink "Encores$Stage" 9 "Encores$Stage" "own" "[I" ∈ TB := tb_2 42 rfl rfl
theorem fl_Encores_Stage_15 : Cond.fieldLink "Encores$Stage" 15 "Encores$Stage" "beside" "[I" ∈ TB := tb_2 43 rfl rfl
theorem fl_Encores_Stage_18 : Cond.fieldLink "Encores$Stage" 18 "Encores$Stage" "house" "LEncores$House;" ∈ TB := tb_2 40 rfl rfl
theorem fl_Encores_Stage_22 : Cond.fieldLink "Encores$Stage" 22 "Encores$Stage" "law" "LEncores$Law;" ∈ TB := tb_2 41 rfl rfl
theorem fl_Encores_Stage_32 : Cond.fieldLink "Encores$Stage" 32 "Encores$House" "programme" "LEncores$Table;" ∈ TB := tb_1 103 rfl rfl
theorem fl_Encores_Stage_36 : Cond.fieldLink "Encores$Stage" 36 "Encores$Table" "lines" "I" ∈ TB := tb_1 53 rfl rfl
theorem fl_Encores_Stage_94 : Cond.fieldLink "Encores$Stage" 94 "Encores$House" "deeds" "LEncores$Table;" ∈ TB := tb_1 87 rfl rfl
theorem fl_Encores_Stage_106 : Cond.fieldLink "Encores$Stage" 106 "Encores$House" "hearers" "LEncores$Table;" ∈ TB := tb_1 82 rfl rfl
theorem fl_Encores_Stage_109 : Cond.fieldLink "Encores$Stage" 109 "Encores$Stage" "thinking" "Z" ∈ TB := tb_2 44 rfl rfl
theorem fl_Encores_Stage_116 : Cond.fieldLink "Encores$Stage" 116 "Encores$Stage" "clapping" "I" ∈ TB := tb_2 46 rfl rfl
theorem fl_Encores_Stage_119 : Cond.fieldLink "Encores$Stage" 119 "Encores$Stage" "rounds" "I" ∈ TB := tb_2 48 rfl rfl
theorem fl_Encores_Table_15 : Cond.fieldLink "Encores$Table" 15 "Encores$Table" "most" "I" ∈ TB := tb_1 45 rfl rfl
theorem fl_Encores_Table_21 : Cond.fieldLink "Encores$Table" 21 "Encores$Table" "wide" "I" ∈ TB := tb_1 46 rfl rfl
theorem fl_Encores_Table_24 : Cond.fieldLink "Encores$Table" 24 "Encores$Table" "cells" "[I" ∈ TB := tb_1 44 rfl rfl
theorem fl_Encores_Table_28 : Cond.fieldLink "Encores$Table" 28 "Encores$Table" "lines" "I" ∈ TB := tb_1 47 rfl rfl
theorem fl_Encores_Tape_9 : Cond.fieldLink "Encores$Tape" 9 "Encores$Tape" "bytes" "[I" ∈ TB := tb_1 183 rfl rfl
theorem fl_Encores_Tape_20 : Cond.fieldLink "Encores$Tape" 20 "Encores$Tape" "tokens" "LEncores$Table;" ∈ TB := tb_1 184 rfl rfl
theorem fl_Encores_Tape_24 : Cond.fieldLink "Encores$Tape" 24 "Encores$Tape" "length" "I" ∈ TB := tb_1 185 rfl rfl
theorem fl_Encores_Tape_28 : Cond.fieldLink "Encores$Tape" 28 "Encores$Table" "lines" "I" ∈ TB := tb_1 55 rfl rfl
theorem fl_Encores_Tape_46 : Cond.fieldLink "Encores$Tape" 46 "Encores$Tape" "token" "I" ∈ TB := tb_1 193 rfl rfl
theorem fl_Encores_Tape_56 : Cond.fieldLink "Encores$Tape" 56 "Encores$Tape" "kind" "I" ∈ TB := tb_1 188 rfl rfl
theorem fl_Encores_Tape_59 : Cond.fieldLink "Encores$Tape" 59 "Encores$Tape" "place" "I" ∈ TB := tb_1 189 rfl rfl
theorem fl_Encores_Tape_62 : Cond.fieldLink "Encores$Tape" 62 "Encores$Tape" "number" "I" ∈ TB := tb_1 191 rfl rfl
theorem fl_EncoresModel_7 : Cond.fieldLink "EncoresModel" 7 "EncoresModel" "w" "[I" ∈ TB := tb_5 152 rfl rfl
theorem fl_EncoresModel_13 : Cond.fieldLink "EncoresModel" 13 "EncoresModel" "kept" "[I" ∈ TB := tb_5 153 rfl rfl
theorem fl_EncoresModel_16 : Cond.fieldLink "EncoresModel" 16 "EncoresModel" "back" "[I" ∈ TB := tb_5 154 rfl rfl
theorem fl_EncoresModel_19 : Cond.fieldLink "EncoresModel" 19 "EncoresModel" "lying" "[I" ∈ TB := tb_5 155 rfl rfl
theorem fl_EncoresModel_22 : Cond.fieldLink "EncoresModel" 22 "EncoresModel" "freshLine" "[I" ∈ TB := tb_5 158 rfl rfl
theorem fl_EncoresModel_25 : Cond.fieldLink "EncoresModel" 25 "EncoresModel" "freshStep" "[I" ∈ TB := tb_5 159 rfl rfl
theorem fl_EncoresModel_28 : Cond.fieldLink "EncoresModel" 28 "EncoresModel" "freshRow" "[I" ∈ TB := tb_5 160 rfl rfl
theorem fl_EncoresModel_31 : Cond.fieldLink "EncoresModel" 31 "EncoresModel" "tape" "[I" ∈ TB := tb_5 161 rfl rfl
theorem fl_EncoresModel_34 : Cond.fieldLink "EncoresModel" 34 "EncoresModel" "pile" "[I" ∈ TB := tb_5 162 rfl rfl
theorem fl_EncoresModel_37 : Cond.fieldLink "EncoresModel" 37 "EncoresModel" "facts" "[I" ∈ TB := tb_5 163 rfl rfl
theorem fl_EncoresModel_40 : Cond.fieldLink "EncoresModel" 40 "EncoresModel" "faultPlace" "I" ∈ TB := tb_5 177 rfl rfl
theorem fl_EncoresModel_44 : Cond.fieldLink "EncoresModel" 44 "EncoresModel" "drawn" "[I" ∈ TB := tb_5 179 rfl rfl
theorem fl_EncoresModel_47 : Cond.fieldLink "EncoresModel" 47 "EncoresModel" "leastOf" "[I" ∈ TB := tb_5 184 rfl rfl
theorem fl_EncoresModel_50 : Cond.fieldLink "EncoresModel" 50 "EncoresModel" "within" "[I" ∈ TB := tb_5 185 rfl rfl
theorem fl_EncoresModel_53 : Cond.fieldLink "EncoresModel" 53 "EncoresModel" "nims" "[I" ∈ TB := tb_5 186 rfl rfl
theorem fl_EncoresModel_60 : Cond.fieldLink "EncoresModel" 60 "EncoresModel" "backMany" "I" ∈ TB := tb_5 156 rfl rfl
theorem fl_EncoresModel_78 : Cond.fieldLink "EncoresModel" 78 "EncoresModel" "taped" "I" ∈ TB := tb_5 168 rfl rfl
theorem fl_EncoresModel_81 : Cond.fieldLink "EncoresModel" 81 "EncoresModel" "at" "I" ∈ TB := tb_5 169 rfl rfl
theorem fl_EncoresModel_84 : Cond.fieldLink "EncoresModel" 84 "EncoresModel" "tokenAt" "I" ∈ TB := tb_5 171 rfl rfl
theorem fl_EncoresModel_146 : Cond.fieldLink "EncoresModel" 146 "EncoresModel" "reading" "I" ∈ TB := tb_5 164 rfl rfl
theorem fl_EncoresModel_162 : Cond.fieldLink "EncoresModel" 162 "EncoresModel" "token" "I" ∈ TB := tb_5 170 rfl rfl
theorem fl_EncoresModel_174 : Cond.fieldLink "EncoresModel" 174 "EncoresModel" "value" "I" ∈ TB := tb_5 172 rfl rfl
theorem fl_EncoresModel_177 : Cond.fieldLink "EncoresModel" 177 "EncoresModel" "wrong" "I" ∈ TB := tb_5 173 rfl rfl
theorem fl_EncoresModel_180 : Cond.fieldLink "EncoresModel" 180 "EncoresModel" "wrongAt" "I" ∈ TB := tb_5 174 rfl rfl
theorem fl_EncoresModel_189 : Cond.fieldLink "EncoresModel" 189 "EncoresModel" "steps" "I" ∈ TB := tb_5 166 rfl rfl
theorem fl_EncoresModel_192 : Cond.fieldLink "EncoresModel" 192 "EncoresModel" "depth" "I" ∈ TB := tb_5 176 rfl rfl
theorem fl_EncoresModel_224 : Cond.fieldLink "EncoresModel" 224 "EncoresModel" "lines" "I" ∈ TB := tb_5 165 rfl rfl
theorem fl_EncoresModel_233 : Cond.fieldLink "EncoresModel" 233 "EncoresModel" "rows" "I" ∈ TB := tb_5 167 rfl rfl
theorem fl_EncoresModel_265 : Cond.fieldLink "EncoresModel" 265 "EncoresModel" "faultKind" "I" ∈ TB := tb_5 175 rfl rfl
theorem fl_EncoresModel_303 : Cond.fieldLink "EncoresModel" 303 "EncoresModel" "isTrue" "Z" ∈ TB := tb_5 178 rfl rfl
theorem fl_EncoresModel_316 : Cond.fieldLink "EncoresModel" 316 "EncoresModel" "clapping" "I" ∈ TB := tb_5 180 rfl rfl
theorem fl_EncoresModel_331 : Cond.fieldLink "EncoresModel" 331 "EncoresModel" "rounds" "I" ∈ TB := tb_5 181 rfl rfl
theorem fl_EncoresModel_347 : Cond.fieldLink "EncoresModel" 347 "EncoresModel" "hands" "I" ∈ TB := tb_5 182 rfl rfl
theorem fl_EncoresModel_358 : Cond.fieldLink "EncoresModel" 358 "EncoresModel" "goesOn" "Z" ∈ TB := tb_5 183 rfl rfl
theorem fl_EncoresModel_437 : Cond.fieldLink "EncoresModel" 437 "EncoresModel" "hasImage" "Z" ∈ TB := tb_5 157 rfl rfl
theorem cn_Encores_235 : Cond.constant "Encores" 235 (-100000) ∈ TB := tb_4 128 rfl rfl
theorem cn_Encores_Fewest_68 : Cond.constant "Encores$Fewest" 68 (1000000) ∈ TB := tb_4 165 rfl rfl
theorem cn_Encores_Stage_104 : Cond.constant "Encores$Stage" 104 (1664525) ∈ TB := tb_3 41 rfl rfl
theorem cn_Encores_Stage_105 : Cond.constant "Encores$Stage" 105 (1013904223) ∈ TB := tb_3 42 rfl rfl
theorem cn_EncoresModel_66 : Cond.constant "EncoresModel" 66 (1664525) ∈ TB := tb_7 45 rfl rfl
theorem cn_EncoresModel_67 : Cond.constant "EncoresModel" 67 (1013904223) ∈ TB := tb_7 46 rfl rfl
theorem cn_EncoresModel_376 : Cond.constant "EncoresModel" 376 (-100000) ∈ TB := tb_7 134 rfl rfl
theorem cn_EncoresModel_398 : Cond.constant "EncoresModel" 398 (100000000) ∈ TB := tb_7 208 rfl rfl
theorem cn_java_lang_Integer_265 : Cond.constant "java/lang/Integer" 265 (1431655765) ∈ TB := tb_3 57 rfl rfl
theorem cn_java_lang_Integer_266 : Cond.constant "java/lang/Integer" 266 (858993459) ∈ TB := tb_3 58 rfl rfl
theorem cn_java_lang_Integer_267 : Cond.constant "java/lang/Integer" 267 (252645135) ∈ TB := tb_3 59 rfl rfl
theorem cl_Encores_318 : Cond.constantLong "Encores" 318 (1000000007) ∈ TB := tb_5 69 rfl rfl
theorem cl_EncoresModel_432 : Cond.constantLong "EncoresModel" 432 (1000000007) ∈ TB := tb_8 45 rfl rfl
theorem kl_EncoresLaw_7 : Cond.classLink "EncoresLaw" 7 "Encores" ∈ TB := tb_1 21 rfl rfl
theorem in_Encores : Cond.instantiable "Encores" 13 ∈ TB := tb_1 22 rfl rfl
theorem kl_Encores_13 : Cond.classLink "Encores" 13 "Encores$House" ∈ TB := tb_1 29 rfl rfl
theorem in_Encores_House : Cond.instantiable "Encores$House" 11 ∈ TB := tb_1 30 rfl rfl
theorem kl_Encores_House_9 : Cond.classLink "Encores$House" 9 "Encores$Table" ∈ TB := tb_1 35 rfl rfl
theorem in_Encores_Table : Cond.instantiable "Encores$Table" 4 ∈ TB := tb_1 36 rfl rfl
theorem kl_Encores_27 : Cond.classLink "Encores" 27 "Encores$Past" ∈ TB := tb_1 134 rfl rfl
theorem in_Encores_Past : Cond.instantiable "Encores$Past" 3 ∈ TB := tb_1 135 rfl rfl
theorem kl_Encores_Past_9 : Cond.classLink "Encores$Past" 9 "Encores$Moment" ∈ TB := tb_1 140 rfl rfl
theorem in_Encores_Moment : Cond.instantiable "Encores$Moment" 4 ∈ TB := tb_1 142 rfl rfl
theorem kl_Encores_Moment_9 : Cond.classLink "Encores$Moment" 9 "Encores$Table" ∈ TB := tb_1 147 rfl rfl
theorem kl_Encores_34 : Cond.classLink "Encores" 34 "Encores$Moment" ∈ TB := tb_1 173 rfl rfl
theorem kl_Encores_41 : Cond.classLink "Encores" 41 "Encores$Tape" ∈ TB := tb_1 175 rfl rfl
theorem in_Encores_Tape : Cond.instantiable "Encores$Tape" 7 ∈ TB := tb_1 176 rfl rfl
theorem kl_Encores_Tape_15 : Cond.classLink "Encores$Tape" 15 "Encores$Table" ∈ TB := tb_1 181 rfl rfl
theorem kl_Encores_48 : Cond.classLink "Encores" 48 "Encores$Reader" ∈ TB := tb_1 209 rfl rfl
theorem in_Encores_Reader : Cond.instantiable "Encores$Reader" 12 ∈ TB := tb_1 210 rfl rfl
theorem kl_Encores_Reader_9 : Cond.classLink "Encores$Reader" 9 "Encores$Table" ∈ TB := tb_1 215 rfl rfl
theorem kl_Encores_57 : Cond.classLink "Encores" 57 "Encores$Law" ∈ TB := tb_2 18 rfl rfl
theorem in_Encores_Law : Cond.instantiable "Encores$Law" 3 ∈ TB := tb_2 19 rfl rfl
theorem kl_Encores_66 : Cond.classLink "Encores" 66 "Encores$Stage" ∈ TB := tb_2 34 rfl rfl
theorem in_Encores_Stage : Cond.instantiable "Encores$Stage" 7 ∈ TB := tb_2 35 rfl rfl
theorem kl_Encores_75 : Cond.classLink "Encores" 75 "Encores$Fewest" ∈ TB := tb_2 65 rfl rfl
theorem in_Encores_Fewest : Cond.instantiable "Encores$Fewest" 7 ∈ TB := tb_2 66 rfl rfl
theorem kl_Encores_Fewest_9 : Cond.classLink "Encores$Fewest" 9 "Encores$Table" ∈ TB := tb_2 71 rfl rfl
theorem kl_Encores_84 : Cond.classLink "Encores" 84 "Encores$Seats" ∈ TB := tb_2 95 rfl rfl
theorem in_Encores_Seats : Cond.instantiable "Encores$Seats" 1 ∈ TB := tb_2 96 rfl rfl
theorem kl_Encores_91 : Cond.classLink "Encores" 91 "Encores$Programme" ∈ TB := tb_2 105 rfl rfl
theorem in_Encores_Programme : Cond.instantiable "Encores$Programme" 1 ∈ TB := tb_2 106 rfl rfl
theorem kl_EncoresLaw_10 : Cond.classLink "EncoresLaw" 10 "EncoresModel" ∈ TB := tb_5 146 rfl rfl
theorem in_EncoresModel : Cond.instantiable "EncoresModel" 35 ∈ TB := tb_5 147 rfl rfl
theorem ma_code_max : Cond.code Lib.Math.max.name Lib.Math.max.code 2 (some .int) ∈ TB := tb_1 43 (by decide +kernel) rfl
theorem ma_st_max : Cond.static Lib.Math.max.name ∈ TB := tb_1 42 rfl rfl
theorem ma_code_min : Cond.code Lib.Math.min.name Lib.Math.min.code 2 (some .int) ∈ TB := tb_2 225 (by decide +kernel) rfl
theorem ma_st_min : Cond.static Lib.Math.min.name ∈ TB := tb_2 224 rfl rfl
theorem ac_int : Cond.arrayClass FieldType.int ∈ TB := tb_1 67 rfl rfl
theorem st_copy : Cond.static arraycopyName ∈ TB := tb_2 221 rfl rfl
theorem nat_copy : Cond.native arraycopyName ∈ TB := tb_2 222 rfl rfl
theorem ac_byte : Cond.arrayClass FieldType.byte ∈ TB := tb_4 97 rfl rfl
theorem oi_inst : Cond.instanceMethod Lib.objectInit ∈ TB := tb_1 27 rfl rfl
theorem oi_code : Cond.code Lib.objectInit ⟨#[0xb1]⟩ 1 none ∈ TB := tb_1 28 rfl rfl
def T0 : u_T := fun k => match k with
  | 0 => ("Encores$Fewest", "house", "LEncores$House;", true)
  | 1 => ("Encores$Fewest", "law", "LEncores$Law;", true)
  | 2 => ("Encores$Fewest", "stage", "LEncores$Stage;", true)
  | 3 => ("Encores$Fewest", "claps", "LEncores$Table;", true)
  | 4 => ("Encores$Fewest", "due", "LEncores$Table;", true)
  | 5 => ("Encores$Fewest", "ready", "I", false)
  | _ => ("Encores$Fewest", "hopeless", "Z", false)
def ty0 : Nat → FieldType := fun k => match k with
  | 0 => (.object "Encores$House")
  | 1 => (.object "Encores$Law")
  | 2 => (.object "Encores$Stage")
  | 3 => (.object "Encores$Table")
  | 4 => (.object "Encores$Table")
  | 5 => .int
  | _ => .boolean
theorem nm0 : ∀ a, a < 7 → ∀ b, b < 7 → a ≠ b → (T0 a).2.1 ≠ (T0 b).2.1 := by decide +kernel
theorem ty0_ok : ∀ k, k < 7 → parseFieldDescriptor (T0 k).2.2.1 = some (ty0 k) := by decide +kernel
theorem us0 : ∀ w ∈ u_ws "Encores$Fewest" T0 7, w ∈ TB := by
  intro w h
  obtain ⟨j, hj, rfl⟩ := List.mem_map.mp h
  have hj := List.mem_range.mp hj
  match j, hj with
  | 0, _ => exact tb_2 80 rfl rfl
  | 1, _ => exact tb_2 82 rfl rfl
  | 2, _ => exact tb_2 84 rfl rfl
  | 3, _ => exact tb_2 86 rfl rfl
  | 4, _ => exact tb_2 88 rfl rfl
  | 5, _ => exact tb_2 90 rfl rfl
  | 6, _ => exact tb_2 92 rfl rfl
  | j + 7, hj => exact absurd hj (by omega)
def T1 : u_T := fun k => match k with
  | 0 => ("Encores$House", "hearers", "LEncores$Table;", true)
  | 1 => ("Encores$House", "deeds", "LEncores$Table;", true)
  | 2 => ("Encores$House", "hour", "LEncores$Table;", true)
  | 3 => ("Encores$House", "book", "LEncores$Table;", true)
  | 4 => ("Encores$House", "laws", "LEncores$Table;", true)
  | 5 => ("Encores$House", "code", "LEncores$Table;", true)
  | 6 => ("Encores$House", "statute", "LEncores$Table;", true)
  | 7 => ("Encores$House", "programme", "LEncores$Table;", true)
  | 8 => ("Encores$House", "gallery", "LEncores$Table;", true)
  | 9 => ("Encores$House", "claque", "LEncores$Table;", true)
  | _ => ("Encores$House", "means", "LEncores$Table;", true)
def ty1 : Nat → FieldType := fun k => match k with
  | 0 => (.object "Encores$Table")
  | 1 => (.object "Encores$Table")
  | 2 => (.object "Encores$Table")
  | 3 => (.object "Encores$Table")
  | 4 => (.object "Encores$Table")
  | 5 => (.object "Encores$Table")
  | 6 => (.object "Encores$Table")
  | 7 => (.object "Encores$Table")
  | 8 => (.object "Encores$Table")
  | 9 => (.object "Encores$Table")
  | _ => (.object "Encores$Table")
theorem nm1 : ∀ a, a < 11 → ∀ b, b < 11 → a ≠ b → (T1 a).2.1 ≠ (T1 b).2.1 := by decide +kernel
theorem ty1_ok : ∀ k, k < 11 → parseFieldDescriptor (T1 k).2.2.1 = some (ty1 k) := by decide +kernel
theorem us1 : ∀ w ∈ u_ws "Encores$House" T1 11, w ∈ TB := by
  intro w h
  obtain ⟨j, hj, rfl⟩ := List.mem_map.mp h
  have hj := List.mem_range.mp hj
  match j, hj with
  | 0, _ => exact tb_1 111 rfl rfl
  | 1, _ => exact tb_1 113 rfl rfl
  | 2, _ => exact tb_1 115 rfl rfl
  | 3, _ => exact tb_1 117 rfl rfl
  | 4, _ => exact tb_1 119 rfl rfl
  | 5, _ => exact tb_1 121 rfl rfl
  | 6, _ => exact tb_1 123 rfl rfl
  | 7, _ => exact tb_1 125 rfl rfl
  | 8, _ => exact tb_1 127 rfl rfl
  | 9, _ => exact tb_1 129 rfl rfl
  | 10, _ => exact tb_1 131 rfl rfl
  | j + 11, hj => exact absurd hj (by omega)
def T2 : u_T := fun k => match k with
  | 0 => ("Encores$Law", "house", "LEncores$House;", true)
  | 1 => ("Encores$Law", "asked", "[I", true)
  | _ => ("Encores$Law", "stack", "[I", true)
def ty2 : Nat → FieldType := fun k => match k with
  | 0 => (.object "Encores$House")
  | 1 => (.array .int)
  | _ => (.array .int)
theorem nm2 : ∀ a, a < 3 → ∀ b, b < 3 → a ≠ b → (T2 a).2.1 ≠ (T2 b).2.1 := by decide +kernel
theorem ty2_ok : ∀ k, k < 3 → parseFieldDescriptor (T2 k).2.2.1 = some (ty2 k) := by decide +kernel
theorem us2 : ∀ w ∈ u_ws "Encores$Law" T2 3, w ∈ TB := by
  intro w h
  obtain ⟨j, hj, rfl⟩ := List.mem_map.mp h
  have hj := List.mem_range.mp hj
  match j, hj with
  | 0, _ => exact tb_2 27 rfl rfl
  | 1, _ => exact tb_2 29 rfl rfl
  | 2, _ => exact tb_2 31 rfl rfl
  | j + 3, hj => exact absurd hj (by omega)
def T3 : u_T := fun k => match k with
  | 0 => ("Encores$Moment", "hearers", "LEncores$Table;", true)
  | 1 => ("Encores$Moment", "deeds", "LEncores$Table;", true)
  | 2 => ("Encores$Moment", "hour", "LEncores$Table;", true)
  | _ => ("Encores$Moment", "booked", "I", false)
def ty3 : Nat → FieldType := fun k => match k with
  | 0 => (.object "Encores$Table")
  | 1 => (.object "Encores$Table")
  | 2 => (.object "Encores$Table")
  | _ => .int
theorem nm3 : ∀ a, a < 4 → ∀ b, b < 4 → a ≠ b → (T3 a).2.1 ≠ (T3 b).2.1 := by decide +kernel
theorem ty3_ok : ∀ k, k < 4 → parseFieldDescriptor (T3 k).2.2.1 = some (ty3 k) := by decide +kernel
theorem us3 : ∀ w ∈ u_ws "Encores$Moment" T3 4, w ∈ TB := by
  intro w h
  obtain ⟨j, hj, rfl⟩ := List.mem_map.mp h
  have hj := List.mem_range.mp hj
  match j, hj with
  | 0, _ => exact tb_1 153 rfl rfl
  | 1, _ => exact tb_1 155 rfl rfl
  | 2, _ => exact tb_1 157 rfl rfl
  | 3, _ => exact tb_1 159 rfl rfl
  | j + 4, hj => exact absurd hj (by omega)
def T4 : u_T := fun k => match k with
  | 0 => ("Encores$Past", "moments", "[LEncores$Moment;", true)
  | 1 => ("Encores$Past", "next", "I", false)
  | _ => ("Encores$Past", "many", "I", false)
def ty4 : Nat → FieldType := fun k => match k with
  | 0 => (.array (.object "Encores$Moment"))
  | 1 => .int
  | _ => .int
theorem nm4 : ∀ a, a < 3 → ∀ b, b < 3 → a ≠ b → (T4 a).2.1 ≠ (T4 b).2.1 := by decide +kernel
theorem ty4_ok : ∀ k, k < 3 → parseFieldDescriptor (T4 k).2.2.1 = some (ty4 k) := by decide +kernel
theorem us4 : ∀ w ∈ u_ws "Encores$Past" T4 3, w ∈ TB := by
  intro w h
  obtain ⟨j, hj, rfl⟩ := List.mem_map.mp h
  have hj := List.mem_range.mp hj
  match j, hj with
  | 0, _ => exact tb_1 166 rfl rfl
  | 1, _ => exact tb_1 168 rfl rfl
  | 2, _ => exact tb_1 170 rfl rfl
  | j + 3, hj => exact absurd hj (by omega)
def T5 : u_T := fun k => match k with
  | _ => ("Encores$Programme", "house", "LEncores$House;", true)
def ty5 : Nat → FieldType := fun k => match k with
  | _ => (.object "Encores$House")
theorem nm5 : ∀ a, a < 1 → ∀ b, b < 1 → a ≠ b → (T5 a).2.1 ≠ (T5 b).2.1 := by decide +kernel
theorem ty5_ok : ∀ k, k < 1 → parseFieldDescriptor (T5 k).2.2.1 = some (ty5 k) := by decide +kernel
theorem us5 : ∀ w ∈ u_ws "Encores$Programme" T5 1, w ∈ TB := by
  intro w h
  obtain ⟨j, hj, rfl⟩ := List.mem_map.mp h
  have hj := List.mem_range.mp hj
  match j, hj with
  | 0, _ => exact tb_2 112 rfl rfl
  | j + 1, hj => exact absurd hj (by omega)
def T6 : u_T := fun k => match k with
  | 0 => ("Encores$Reader", "tape", "LEncores$Tape;", true)
  | 1 => ("Encores$Reader", "lines", "LEncores$Table;", true)
  | 2 => ("Encores$Reader", "code", "LEncores$Table;", true)
  | 3 => ("Encores$Reader", "fault", "I", false)
  | 4 => ("Encores$Reader", "faultPlace", "I", false)
  | 5 => ("Encores$Reader", "waiting", "LEncores$Table;", true)
  | 6 => ("Encores$Reader", "open", "I", false)
  | 7 => ("Encores$Reader", "brackets", "I", false)
  | 8 => ("Encores$Reader", "side", "I", false)
  | 9 => ("Encores$Reader", "line", "I", false)
  | 10 => ("Encores$Reader", "hearers", "I", false)
  | _ => ("Encores$Reader", "deeds", "I", false)
def ty6 : Nat → FieldType := fun k => match k with
  | 0 => (.object "Encores$Tape")
  | 1 => (.object "Encores$Table")
  | 2 => (.object "Encores$Table")
  | 3 => .int
  | 4 => .int
  | 5 => (.object "Encores$Table")
  | 6 => .int
  | 7 => .int
  | 8 => .int
  | 9 => .int
  | 10 => .int
  | _ => .int
theorem nm6 : ∀ a, a < 12 → ∀ b, b < 12 → a ≠ b → (T6 a).2.1 ≠ (T6 b).2.1 := by decide +kernel
theorem ty6_ok : ∀ k, k < 12 → parseFieldDescriptor (T6 k).2.2.1 = some (ty6 k) := by decide +kernel
theorem us6 : ∀ w ∈ u_ws "Encores$Reader" T6 12, w ∈ TB := by
  intro w h
  obtain ⟨j, hj, rfl⟩ := List.mem_map.mp h
  have hj := List.mem_range.mp hj
  match j, hj with
  | 0, _ => exact tb_1 233 rfl rfl
  | 1, _ => exact tb_1 235 rfl rfl
  | 2, _ => exact tb_1 237 rfl rfl
  | 3, _ => exact tb_1 239 rfl rfl
  | 4, _ => exact tb_2 1 rfl rfl
  | 5, _ => exact tb_2 3 rfl rfl
  | 6, _ => exact tb_2 5 rfl rfl
  | 7, _ => exact tb_2 7 rfl rfl
  | 8, _ => exact tb_2 9 rfl rfl
  | 9, _ => exact tb_2 11 rfl rfl
  | 10, _ => exact tb_2 13 rfl rfl
  | 11, _ => exact tb_2 15 rfl rfl
  | j + 12, hj => exact absurd hj (by omega)
def T7 : u_T := fun k => match k with
  | _ => ("Encores$Seats", "house", "LEncores$House;", true)
def ty7 : Nat → FieldType := fun k => match k with
  | _ => (.object "Encores$House")
theorem nm7 : ∀ a, a < 1 → ∀ b, b < 1 → a ≠ b → (T7 a).2.1 ≠ (T7 b).2.1 := by decide +kernel
theorem ty7_ok : ∀ k, k < 1 → parseFieldDescriptor (T7 k).2.2.1 = some (ty7 k) := by decide +kernel
theorem us7 : ∀ w ∈ u_ws "Encores$Seats" T7 1, w ∈ TB := by
  intro w h
  obtain ⟨j, hj, rfl⟩ := List.mem_map.mp h
  have hj := List.mem_range.mp hj
  match j, hj with
  | 0, _ => exact tb_2 102 rfl rfl
  | j + 1, hj => exact absurd hj (by omega)
def T8 : u_T := fun k => match k with
  | 0 => ("Encores$Stage", "house", "LEncores$House;", true)
  | 1 => ("Encores$Stage", "law", "LEncores$Law;", true)
  | 2 => ("Encores$Stage", "own", "[I", true)
  | 3 => ("Encores$Stage", "beside", "[I", true)
  | 4 => ("Encores$Stage", "thinking", "Z", false)
  | 5 => ("Encores$Stage", "clapping", "I", false)
  | _ => ("Encores$Stage", "rounds", "I", false)
def ty8 : Nat → FieldType := fun k => match k with
  | 0 => (.object "Encores$House")
  | 1 => (.object "Encores$Law")
  | 2 => (.array .int)
  | 3 => (.array .int)
  | 4 => .boolean
  | 5 => .int
  | _ => .int
theorem nm8 : ∀ a, a < 7 → ∀ b, b < 7 → a ≠ b → (T8 a).2.1 ≠ (T8 b).2.1 := by decide +kernel
theorem ty8_ok : ∀ k, k < 7 → parseFieldDescriptor (T8 k).2.2.1 = some (ty8 k) := by decide +kernel
theorem us8 : ∀ w ∈ u_ws "Encores$Stage" T8 7, w ∈ TB := by
  intro w h
  obtain ⟨j, hj, rfl⟩ := List.mem_map.mp h
  have hj := List.mem_range.mp hj
  match j, hj with
  | 0, _ => exact tb_2 50 rfl rfl
  | 1, _ => exact tb_2 52 rfl rfl
  | 2, _ => exact tb_2 54 rfl rfl
  | 3, _ => exact tb_2 56 rfl rfl
  | 4, _ => exact tb_2 58 rfl rfl
  | 5, _ => exact tb_2 60 rfl rfl
  | 6, _ => exact tb_2 62 rfl rfl
  | j + 7, hj => exact absurd hj (by omega)
def T9 : u_T := fun k => match k with
  | 0 => ("Encores$Table", "cells", "[I", true)
  | 1 => ("Encores$Table", "most", "I", true)
  | 2 => ("Encores$Table", "wide", "I", true)
  | _ => ("Encores$Table", "lines", "I", false)
def ty9 : Nat → FieldType := fun k => match k with
  | 0 => (.array .int)
  | 1 => .int
  | 2 => .int
  | _ => .int
theorem nm9 : ∀ a, a < 4 → ∀ b, b < 4 → a ≠ b → (T9 a).2.1 ≠ (T9 b).2.1 := by decide +kernel
theorem ty9_ok : ∀ k, k < 4 → parseFieldDescriptor (T9 k).2.2.1 = some (ty9 k) := by decide +kernel
theorem us9 : ∀ w ∈ u_ws "Encores$Table" T9 4, w ∈ TB := by
  intro w h
  obtain ⟨j, hj, rfl⟩ := List.mem_map.mp h
  have hj := List.mem_range.mp hj
  match j, hj with
  | 0, _ => exact tb_1 58 rfl rfl
  | 1, _ => exact tb_1 60 rfl rfl
  | 2, _ => exact tb_1 62 rfl rfl
  | 3, _ => exact tb_1 64 rfl rfl
  | j + 4, hj => exact absurd hj (by omega)
def T10 : u_T := fun k => match k with
  | 0 => ("Encores$Tape", "bytes", "[I", true)
  | 1 => ("Encores$Tape", "tokens", "LEncores$Table;", true)
  | 2 => ("Encores$Tape", "length", "I", false)
  | 3 => ("Encores$Tape", "kind", "I", false)
  | 4 => ("Encores$Tape", "place", "I", false)
  | 5 => ("Encores$Tape", "number", "I", false)
  | _ => ("Encores$Tape", "token", "I", false)
def ty10 : Nat → FieldType := fun k => match k with
  | 0 => (.array .int)
  | 1 => (.object "Encores$Table")
  | 2 => .int
  | 3 => .int
  | 4 => .int
  | 5 => .int
  | _ => .int
theorem nm10 : ∀ a, a < 7 → ∀ b, b < 7 → a ≠ b → (T10 a).2.1 ≠ (T10 b).2.1 := by decide +kernel
theorem ty10_ok : ∀ k, k < 7 → parseFieldDescriptor (T10 k).2.2.1 = some (ty10 k) := by decide +kernel
theorem us10 : ∀ w ∈ u_ws "Encores$Tape" T10 7, w ∈ TB := by
  intro w h
  obtain ⟨j, hj, rfl⟩ := List.mem_map.mp h
  have hj := List.mem_range.mp hj
  match j, hj with
  | 0, _ => exact tb_1 194 rfl rfl
  | 1, _ => exact tb_1 196 rfl rfl
  | 2, _ => exact tb_1 198 rfl rfl
  | 3, _ => exact tb_1 200 rfl rfl
  | 4, _ => exact tb_1 202 rfl rfl
  | 5, _ => exact tb_1 204 rfl rfl
  | 6, _ => exact tb_1 206 rfl rfl
  | j + 7, hj => exact absurd hj (by omega)
def T11 : u_T := fun k => match k with
  | 0 => ("Encores", "house", "LEncores$House;", true)
  | 1 => ("Encores", "image", "LEncores$House;", true)
  | 2 => ("Encores", "imageTaken", "Z", false)
  | 3 => ("Encores", "past", "LEncores$Past;", true)
  | 4 => ("Encores", "before", "LEncores$Moment;", true)
  | 5 => ("Encores", "tape", "LEncores$Tape;", true)
  | 6 => ("Encores", "reader", "LEncores$Reader;", true)
  | 7 => ("Encores", "law", "LEncores$Law;", true)
  | 8 => ("Encores", "stage", "LEncores$Stage;", true)
  | 9 => ("Encores", "fewest", "LEncores$Fewest;", true)
  | 10 => ("Encores", "seats", "LEncores$Seats;", true)
  | 11 => ("Encores", "programme", "LEncores$Programme;", true)
  | _ => ("Encores", "with", "[I", true)
def ty11 : Nat → FieldType := fun k => match k with
  | 0 => (.object "Encores$House")
  | 1 => (.object "Encores$House")
  | 2 => .boolean
  | 3 => (.object "Encores$Past")
  | 4 => (.object "Encores$Moment")
  | 5 => (.object "Encores$Tape")
  | 6 => (.object "Encores$Reader")
  | 7 => (.object "Encores$Law")
  | 8 => (.object "Encores$Stage")
  | 9 => (.object "Encores$Fewest")
  | 10 => (.object "Encores$Seats")
  | 11 => (.object "Encores$Programme")
  | _ => (.array .int)
theorem nm11 : ∀ a, a < 13 → ∀ b, b < 13 → a ≠ b → (T11 a).2.1 ≠ (T11 b).2.1 := by decide +kernel
theorem ty11_ok : ∀ k, k < 13 → parseFieldDescriptor (T11 k).2.2.1 = some (ty11 k) := by decide +kernel
theorem us11 : ∀ w ∈ u_ws "Encores" T11 13, w ∈ TB := by
  intro w h
  obtain ⟨j, hj, rfl⟩ := List.mem_map.mp h
  have hj := List.mem_range.mp hj
  match j, hj with
  | 0, _ => exact tb_2 128 rfl rfl
  | 1, _ => exact tb_2 130 rfl rfl
  | 2, _ => exact tb_2 132 rfl rfl
  | 3, _ => exact tb_2 134 rfl rfl
  | 4, _ => exact tb_2 136 rfl rfl
  | 5, _ => exact tb_2 138 rfl rfl
  | 6, _ => exact tb_2 140 rfl rfl
  | 7, _ => exact tb_2 142 rfl rfl
  | 8, _ => exact tb_2 144 rfl rfl
  | 9, _ => exact tb_2 146 rfl rfl
  | 10, _ => exact tb_2 148 rfl rfl
  | 11, _ => exact tb_2 150 rfl rfl
  | 12, _ => exact tb_2 152 rfl rfl
  | j + 13, hj => exact absurd hj (by omega)
def T12 : u_T := fun k => match k with
  | 0 => ("EncoresModel", "w", "[I", true)
  | 1 => ("EncoresModel", "kept", "[I", true)
  | 2 => ("EncoresModel", "back", "[I", true)
  | 3 => ("EncoresModel", "lying", "[I", true)
  | 4 => ("EncoresModel", "backMany", "I", false)
  | 5 => ("EncoresModel", "hasImage", "Z", false)
  | 6 => ("EncoresModel", "freshLine", "[I", true)
  | 7 => ("EncoresModel", "freshStep", "[I", true)
  | 8 => ("EncoresModel", "freshRow", "[I", true)
  | 9 => ("EncoresModel", "tape", "[I", true)
  | 10 => ("EncoresModel", "pile", "[I", true)
  | 11 => ("EncoresModel", "facts", "[I", true)
  | 12 => ("EncoresModel", "reading", "I", false)
  | 13 => ("EncoresModel", "lines", "I", false)
  | 14 => ("EncoresModel", "steps", "I", false)
  | 15 => ("EncoresModel", "rows", "I", false)
  | 16 => ("EncoresModel", "taped", "I", false)
  | 17 => ("EncoresModel", "at", "I", false)
  | 18 => ("EncoresModel", "token", "I", false)
  | 19 => ("EncoresModel", "tokenAt", "I", false)
  | 20 => ("EncoresModel", "value", "I", false)
  | 21 => ("EncoresModel", "wrong", "I", false)
  | 22 => ("EncoresModel", "wrongAt", "I", false)
  | 23 => ("EncoresModel", "faultKind", "I", false)
  | 24 => ("EncoresModel", "depth", "I", false)
  | 25 => ("EncoresModel", "faultPlace", "I", false)
  | 26 => ("EncoresModel", "isTrue", "Z", false)
  | 27 => ("EncoresModel", "drawn", "[I", true)
  | 28 => ("EncoresModel", "clapping", "I", false)
  | 29 => ("EncoresModel", "rounds", "I", false)
  | 30 => ("EncoresModel", "hands", "I", false)
  | 31 => ("EncoresModel", "goesOn", "Z", false)
  | 32 => ("EncoresModel", "leastOf", "[I", true)
  | 33 => ("EncoresModel", "within", "[I", true)
  | _ => ("EncoresModel", "nims", "[I", true)
def ty12 : Nat → FieldType := fun k => match k with
  | 0 => (.array .int)
  | 1 => (.array .int)
  | 2 => (.array .int)
  | 3 => (.array .int)
  | 4 => .int
  | 5 => .boolean
  | 6 => (.array .int)
  | 7 => (.array .int)
  | 8 => (.array .int)
  | 9 => (.array .int)
  | 10 => (.array .int)
  | 11 => (.array .int)
  | 12 => .int
  | 13 => .int
  | 14 => .int
  | 15 => .int
  | 16 => .int
  | 17 => .int
  | 18 => .int
  | 19 => .int
  | 20 => .int
  | 21 => .int
  | 22 => .int
  | 23 => .int
  | 24 => .int
  | 25 => .int
  | 26 => .boolean
  | 27 => (.array .int)
  | 28 => .int
  | 29 => .int
  | 30 => .int
  | 31 => .boolean
  | 32 => (.array .int)
  | 33 => (.array .int)
  | _ => (.array .int)
theorem nm12 : ∀ a, a < 35 → ∀ b, b < 35 → a ≠ b → (T12 a).2.1 ≠ (T12 b).2.1 := by decide +kernel
theorem ty12_ok : ∀ k, k < 35 → parseFieldDescriptor (T12 k).2.2.1 = some (ty12 k) := by decide +kernel
theorem us12 : ∀ w ∈ u_ws "EncoresModel" T12 35, w ∈ TB := by
  intro w h
  obtain ⟨j, hj, rfl⟩ := List.mem_map.mp h
  have hj := List.mem_range.mp hj
  match j, hj with
  | 0, _ => exact tb_5 187 rfl rfl
  | 1, _ => exact tb_5 189 rfl rfl
  | 2, _ => exact tb_5 191 rfl rfl
  | 3, _ => exact tb_5 193 rfl rfl
  | 4, _ => exact tb_5 195 rfl rfl
  | 5, _ => exact tb_5 197 rfl rfl
  | 6, _ => exact tb_5 199 rfl rfl
  | 7, _ => exact tb_5 201 rfl rfl
  | 8, _ => exact tb_5 203 rfl rfl
  | 9, _ => exact tb_5 205 rfl rfl
  | 10, _ => exact tb_5 207 rfl rfl
  | 11, _ => exact tb_5 209 rfl rfl
  | 12, _ => exact tb_5 211 rfl rfl
  | 13, _ => exact tb_5 213 rfl rfl
  | 14, _ => exact tb_5 215 rfl rfl
  | 15, _ => exact tb_5 217 rfl rfl
  | 16, _ => exact tb_5 219 rfl rfl
  | 17, _ => exact tb_5 221 rfl rfl
  | 18, _ => exact tb_5 223 rfl rfl
  | 19, _ => exact tb_5 225 rfl rfl
  | 20, _ => exact tb_5 227 rfl rfl
  | 21, _ => exact tb_5 229 rfl rfl
  | 22, _ => exact tb_5 231 rfl rfl
  | 23, _ => exact tb_5 233 rfl rfl
  | 24, _ => exact tb_5 235 rfl rfl
  | 25, _ => exact tb_5 237 rfl rfl
  | 26, _ => exact tb_5 239 rfl rfl
  | 27, _ => exact tb_6 1 rfl rfl
  | 28, _ => exact tb_6 3 rfl rfl
  | 29, _ => exact tb_6 5 rfl rfl
  | 30, _ => exact tb_6 7 rfl rfl
  | 31, _ => exact tb_6 9 rfl rfl
  | 32, _ => exact tb_6 11 rfl rfl
  | 33, _ => exact tb_6 13 rfl rfl
  | 34, _ => exact tb_6 15 rfl rfl
  | j + 35, hj => exact absurd hj (by omega)
abbrev vwCl : List vw_C := [("Encores$Fewest", T0, 7), ("Encores$House", T1, 11), ("Encores$Law", T2, 3), ("Encores$Moment", T3, 4), ("Encores$Past", T4, 3), ("Encores$Programme", T5, 1), ("Encores$Reader", T6, 12), ("Encores$Seats", T7, 1), ("Encores$Stage", T8, 7), ("Encores$Table", T9, 4), ("Encores$Tape", T10, 7), ("Encores", T11, 13), ("EncoresModel", T12, 35)]
end
section
def refF : List (List Bool) := [[true, true, true, true, true, false, false], [true, true, true, true, true, true, true, true, true, true, true], [true, true, true], [true, true, true, false], [true, false, false], [true], [true, true, true, false, false, true, false, false, false, false, false, false], [true], [true, true, true, true, false, false, false], [true, false, false, false], [true, true, false, false, false, false, false], [true, true, false, true, true, true, true, true, true, true, true, true, true], [true, true, true, true, false, false, true, true, true, true, true, true, false, false, false, false, false, false, false, false, false, false, false, false, false, false, false, true, false, false, false, false, true, true, true]]
/-- the texts: class, entry, text -/
def strL : List (String × Nat × String) := [("Encores$Tape", 80, "loud clap wears when or and not hearer hands likes manners paid worth wear agains beside late from most double end at deed "), ("EncoresModel", 121, "when"), ("EncoresModel", 123, "or"), ("EncoresModel", 125, "and"), ("EncoresModel", 127, "not"), ("EncoresModel", 129, "loud"), ("EncoresModel", 131, "clap"), ("EncoresModel", 133, "wears"), ("EncoresModel", 97, "hearer"), ("EncoresModel", 103, "hands"), ("EncoresModel", 105, "likes"), ("EncoresModel", 107, "manners"), ("EncoresModel", 109, "paid"), ("EncoresModel", 111, "worth"), ("EncoresModel", 113, "wear"), ("EncoresModel", 115, "agains"), ("EncoresModel", 117, "beside"), ("EncoresModel", 119, "late"), ("EncoresModel", 138, "most"), ("EncoresModel", 140, "double"), ("EncoresModel", 142, "end"), ("EncoresModel", 144, "from"), ("EncoresModel", 155, "at"), ("EncoresModel", 156, "deed")]
def strN : Nat := 24
def strLen : List Nat := [123, 4, 2, 3, 3, 4, 4, 5, 6, 5, 5, 7, 4, 5, 4, 6, 6, 4, 4, 6, 3, 4, 2, 4]
def strByt : List (List Int32) := [[108, 111, 117, 100, 32, 99, 108, 97, 112, 32, 119, 101, 97, 114, 115, 32, 119, 104, 101, 110, 32, 111, 114, 32, 97, 110, 100, 32, 110, 111, 116, 32, 104, 101, 97, 114, 101, 114, 32, 104, 97, 110, 100, 115, 32, 108, 105, 107, 101, 115, 32, 109, 97, 110, 110, 101, 114, 115, 32, 112, 97, 105, 100, 32, 119, 111, 114, 116, 104, 32, 119, 101, 97, 114, 32, 97, 103, 97, 105, 110, 115, 32, 98, 101, 115, 105, 100, 101, 32, 108, 97, 116, 101, 32, 102, 114, 111, 109, 32, 109, 111, 115, 116, 32, 100, 111, 117, 98, 108, 101, 32, 101, 110, 100, 32, 97, 116, 32, 100, 101, 101, 100, 32], [119, 104, 101, 110], [111, 114], [97, 110, 100], [110, 111, 116], [108, 111, 117, 100], [99, 108, 97, 112], [119, 101, 97, 114, 115], [104, 101, 97, 114, 101, 114], [104, 97, 110, 100, 115], [108, 105, 107, 101, 115], [109, 97, 110, 110, 101, 114, 115], [112, 97, 105, 100], [119, 111, 114, 116, 104], [119, 101, 97, 114], [97, 103, 97, 105, 110, 115], [98, 101, 115, 105, 100, 101], [108, 97, 116, 101], [109, 111, 115, 116], [100, 111, 117, 98, 108, 101], [101, 110, 100], [102, 114, 111, 109], [97, 116], [100, 101, 101, 100]]
def nestL : List (String × Nat × MethodName × String) := [("Encores", 36, ⟨"Encores$Moment", "<init>", "()V"⟩, "Encores"), ("Encores", 43, ⟨"Encores$Tape", "<init>", "()V"⟩, "Encores"), ("Encores$Fewest", 109, ⟨"Encores", "nextWithin", "(II)I"⟩, "Encores"), ("Encores$Fewest", 86, ⟨"Encores", "isIn", "(II)Z"⟩, "Encores"), ("Encores$Past", 17, ⟨"Encores$Moment", "<init>", "()V"⟩, "Encores"), ("Encores$Programme", 27, ⟨"Encores", "isIn", "(II)Z"⟩, "Encores"), ("Encores$Reader", 45, ⟨"Encores", "within", "(III)Z"⟩, "Encores"), ("Encores$Seats", 27, ⟨"Encores", "isIn", "(II)Z"⟩, "Encores"), ("Encores$Seats", 52, ⟨"Encores", "nextWithin", "(II)I"⟩, "Encores"), ("Encores$Stage", 125, ⟨"Encores", "isIn", "(II)Z"⟩, "Encores")]
end
section
/-! THE ABSTRACT MACHINE'S PICTURE: cells by number, a memory of ints, a shape -/
abbrev Mem : Type := Nat → Nat → Int32
abbrev SE : Type := Nat × Nat × List (Option Nat)
def av (σ : Nat → Nat) (v : Value) : Value := match v with
  | .ref k => .ref (σ k)
  | w => w
theorem av_cat (σ : Nat → Nat) (v : Value) : (av σ v).category = v.category := by cases v <;> rfl
def isR (ci j : Nat) : Bool := (refF.getD ci []).getD j false
def fld (σ : Nat → Nat) (μ : Mem) (k : Nat) (e : SE) (j : Nat) : Value := if isR e.1 j = true then va_rf ((e.2.2.getD j none).map σ) else .int (μ k j)
def ent (σ : Nat → Nat) (D : va_G) (μ : Mem) (k : Nat) (e : SE) : va_E :=
  if e.1 = 100 then .inl (D.1 100, e.2.1, .inl (μ k))
  else if e.1 = 101 then .inl (D.1 101, e.2.1, .inr (.inr (.inr (.inr (fun j => (e.2.2.getD j none).map σ)))))
  else .inr (e.1, (List.range e.2.1).map (fld σ μ k e))
def wd (σ : Nat → Nat) (D : va_G) (Sh : List SE) (μ : Mem) : va_W := Sh.mapIdx (fun k e => (σ k, ent σ D μ k e))
def mset (μ : Mem) (k j : Nat) (v : Int32) : Mem := fun a b => if a = k ∧ b = j then v else μ a b
theorem wd_get (σ : Nat → Nat) (D : va_G) (Sh : List SE) (μ : Mem) (k : Nat) : (wd σ D Sh μ)[k]? = (Sh[k]?).map (fun e => (σ k, ent σ D μ k e)) := by
  unfold wd
  rw [List.getElem?_mapIdx]
theorem wd_at {σ : Nat → Nat} {D : va_G} {Sh : List SE} {μ : Mem} {k : Nat} {e : SE} (h : Sh[k]? = some e) : (wd σ D Sh μ)[k]? = some (σ k, ent σ D μ k e) := by
  rw [wd_get, h]; rfl
theorem wd_len (σ : Nat → Nat) (D : va_G) (Sh : List SE) (μ : Mem) : (wd σ D Sh μ).length = Sh.length := by
  unfold wd; simp
theorem ent_arr {σ : Nat → Nat} {D : va_G} {μ : Mem} {k n : Nat} {rs : List (Option Nat)} : ent σ D μ k (100, n, rs) = .inl (D.1 100, n, .inl (μ k)) := rfl
theorem ent_rarr {σ : Nat → Nat} {D : va_G} {μ : Mem} {k n : Nat} {rs : List (Option Nat)} : ent σ D μ k (101, n, rs) = .inl (D.1 101, n, .inr (.inr (.inr (.inr (fun j => (rs.getD j none).map σ))))) := rfl
theorem ent_obj {σ : Nat → Nat} {D : va_G} {μ : Mem} {k : Nat} {e : SE} (h : e.1 < 100) : ent σ D μ k e = .inr (e.1, (List.range e.2.1).map (fld σ μ k e)) := by
  unfold ent
  rw [if_neg (by omega), if_neg (by omega)]
theorem mset_ne {μ : Mem} {k j a : Nat} {v : Int32} (h : a ≠ k) : mset μ k j v a = μ a := by
  funext b
  simp [mset, h]
theorem mset_eq {μ : Mem} {k j : Nat} {v : Int32} : mset μ k j v k = upd (μ k) j v := by
  funext b
  simp [mset, upd]
theorem ent_congr {σ : Nat → Nat} {D : va_G} {μ ν : Mem} {k : Nat} {e : SE} (h : μ k = ν k) : ent σ D μ k e = ent σ D ν k e := by
  unfold ent
  have hf : fld σ μ k e = fld σ ν k e := by
    funext j
    simp [fld, h]
  rw [h, hf]
theorem wd_ext {σ : Nat → Nat} {D : va_G} {Sh : List SE} {μ : Mem} {X : va_W} (h : ∀ k : Nat, X[k]? = (Sh[k]?).map (fun e => (σ k, ent σ D μ k e))) : X = wd σ D Sh μ := by
  refine List.ext_getElem? fun k => ?_
  rw [h k, wd_get]
theorem wd_setA {σ : Nat → Nat} {D : va_G} {Sh : List SE} {μ : Mem} {k n j : Nat} {rs : List (Option Nat)} {v : Int32} (h : Sh[k]? = some (100, n, rs)) : (wd σ D Sh μ).set k (σ k, .inl (D.1 100, n, .inl (upd (μ k) j v))) = wd σ D Sh (mset μ k j v) := by
  refine wd_ext fun i => ?_
  rw [List.getElem?_set]
  by_cases hi : k = i
  · subst hi
    rw [if_pos rfl, if_pos (by rw [wd_len]; exact (List.getElem?_eq_some_iff.mp h).1), h]
    simp only [Option.map_some, ent_arr, mset_eq]
  · rw [if_neg hi, wd_get]
    cases Sh[i]? with
    | none => rfl
    | some e =>
      simp only [Option.map_some]
      rw [ent_congr (mset_ne (fun q => hi q.symm)).symm]
theorem fs_at {σ : Nat → Nat} {μ : Mem} {k n j : Nat} {e : SE} (hj : j < n) : ((List.range n).map (fld σ μ k e))[j]? = some (fld σ μ k e j) := by
  rw [List.getElem?_map, List.getElem?_range hj]; rfl
theorem wd_setI {σ : Nat → Nat} {D : va_G} {Sh : List SE} {μ : Mem} {k j : Nat} {e : SE} {v : Int32} (h : Sh[k]? = some e) (hc : e.1 < 100) (hr : isR e.1 j = false) (hj : j < e.2.1) : (wd σ D Sh μ).set k (σ k, .inr (e.1, ((List.range e.2.1).map (fld σ μ k e)).set j (.int v))) = wd σ D Sh (mset μ k j v) := by
  refine wd_ext fun i => ?_
  rw [List.getElem?_set]
  by_cases hi : k = i
  · subst hi
    rw [if_pos rfl, if_pos (by rw [wd_len]; exact (List.getElem?_eq_some_iff.mp h).1), h]
    simp only [Option.map_some, ent_obj hc]
    refine congrArg some (congrArg (Prod.mk _) (congrArg Sum.inr (congrArg (Prod.mk _) ?_)))
    refine List.ext_getElem? fun i => ?_
    rw [List.getElem?_set]
    by_cases hi : j = i
    · subst hi
      rw [if_pos rfl, if_pos (by simpa using hj), fs_at hj]
      simp [fld, hr, mset]
    · rw [if_neg hi]
      by_cases hl : i < e.2.1
      · rw [fs_at hl, fs_at hl]
        have hi2 : ¬ i = j := fun q => hi q.symm
        simp [fld, mset, hi2]
      · rw [List.getElem?_eq_none (by simpa using hl), List.getElem?_eq_none (by simpa using hl)]
  · rw [if_neg hi, wd_get]
    cases Sh[i]? with
    | none => rfl
    | some e =>
      simp only [Option.map_some]
      rw [ent_congr (mset_ne (fun q => hi q.symm)).symm]
theorem wd_setR {σ : Nat → Nat} {D : va_G} {Sh : List SE} {μ : Mem} {k j n ci r : Nat} {rs : List (Option Nat)} (h : Sh[k]? = some (ci, n, rs)) (hc : ci < 100) (hr : isR ci j = true) (hj : j < n) (hl : j < rs.length) : (wd σ D Sh μ).set k (σ k, .inr (ci, ((List.range n).map (fld σ μ k (ci, n, rs))).set j (.ref (σ r)))) = wd σ D (Sh.set k (ci, n, rs.set j (some r))) μ := by
  refine wd_ext fun i => ?_
  rw [List.getElem?_set, List.getElem?_set]
  by_cases hi : k = i
  · subst hi
    rw [if_pos rfl, if_pos (by rw [wd_len]; exact (List.getElem?_eq_some_iff.mp h).1), if_pos rfl, if_pos (List.getElem?_eq_some_iff.mp h).1]
    simp only [Option.map_some]
    rw [ent_obj (e := (ci, n, rs.set j (some r))) hc]
    refine congrArg some (congrArg (Prod.mk _) (congrArg Sum.inr (congrArg (Prod.mk _) ?_)))
    refine List.ext_getElem? fun i => ?_
    rw [List.getElem?_set]
    by_cases hi : j = i
    · subst hi
      rw [if_pos rfl, if_pos (by simpa using hj), fs_at hj]
      simp [fld, hr, List.getD, hl, va_rf]
    · rw [if_neg hi]
      by_cases hl : i < n
      · rw [fs_at hl, fs_at hl]
        simp [fld, List.getD, List.getElem?_set, hi]
      · rw [List.getElem?_eq_none (by simpa using hl), List.getElem?_eq_none (by simpa using hl)]
  · rw [if_neg hi, if_neg hi, wd_get]
theorem wd_push {σ : Nat → Nat} {D : va_G} {Sh : List SE} {μ : Mem} {q : Nat} {e : SE} {E : va_E} (hσ : ∀ (k : Nat) (a : SE), Sh[k]? = some a → ∀ j r, a.2.2.getD j none = some r → r < Sh.length) (hE : E = ent (fun j => if j = Sh.length then q else σ j) D μ Sh.length e) : wd σ D Sh μ ++ [(q, E)] = wd (fun j => if j = Sh.length then q else σ j) D (Sh ++ [e]) μ := by
  refine wd_ext fun i => ?_
  by_cases hi : i < Sh.length
  · rw [List.getElem?_append_left (by rw [wd_len]; exact hi), List.getElem?_append_left hi, wd_get]
    obtain ⟨a, ha⟩ : ∃ a, Sh[i]? = some a := ⟨_, List.getElem?_eq_getElem hi⟩
    have hr : ∀ j, (a.2.2.getD j none).map σ = (a.2.2.getD j none).map (fun j => if j = Sh.length then q else σ j) := by
      intro j
      cases hq : a.2.2.getD j none with
      | none => rfl
      | some r =>
        have := hσ i a ha j r hq
        simp [Nat.ne_of_lt this]
    rw [ha]
    simp only [Option.map_some]
    rw [if_neg (Nat.ne_of_lt hi)]
    refine congrArg some (congrArg (Prod.mk _) ?_)
    unfold ent fld
    simp only [hr]
  · rw [List.getElem?_append_right (by rw [wd_len]; omega), List.getElem?_append_right (by omega), wd_len]
    by_cases hj : i - Sh.length = 0
    · have : i = Sh.length := by omega
      subst this
      simp [hE]
    · rw [List.getElem?_eq_none (by simp; omega), List.getElem?_eq_none (by simp; omega)]
      rfl
/-! locals by position -/
def kil (o : Option Value) : Option Value := match o with
  | some (.long _) => none
  | some (.double _) => none
  | w => w
def lset : List (Option Value) → Nat → Value → List (Option Value)
  | [], _, _ => []
  | _ :: L, 0, v => some v :: L
  | o :: L, 1, v => kil o :: lset L 0 v
  | o :: L, i + 2, v => o :: lset L (i + 1) v
def lvR (σ : Nat → Nat) (ls : Array Slot) (nL : Nat) (L : List (Option Value)) : Prop := ls.size = nL ∧ lv_wf ls ∧ ∀ (i : Nat) (v : Value), L[i]? = some (some v) → ls[i]? = some (.val (av σ v))
def asc (σ : Nat → Nat) : Nat → List (Option Value) → List (Nat × Value)
  | _, [] => []
  | n, none :: L => asc σ (n + 1) L
  | n, some v :: L => (n, av σ v) :: asc σ (n + 1) L
theorem asc_of (σ : Nat → Nat) : ∀ (L : List (Option Value)) (n : Nat) (q : Nat × Value), q ∈ asc σ n L → ∃ (i : Nat) (v : Value), L[i]? = some (some v) ∧ q = (n + i, av σ v)
  | [], n, q, h => absurd h List.not_mem_nil
  | none :: L, n, q, h => by
    obtain ⟨i, v, h1, h2⟩ := asc_of σ L (n + 1) q h
    exact ⟨i + 1, v, by simpa using h1, by rw [h2]; congr 1; omega⟩
  | some w :: L, n, q, h => by
    rcases List.mem_cons.mp h with rfl | h
    · exact ⟨0, w, rfl, rfl⟩
    · obtain ⟨i, v, h1, h2⟩ := asc_of σ L (n + 1) q h
      exact ⟨i + 1, v, by simpa using h1, by rw [h2]; congr 1; omega⟩
theorem asc_in (σ : Nat → Nat) : ∀ (L : List (Option Value)) (n i : Nat) (v : Value), L[i]? = some (some v) → (n + i, av σ v) ∈ asc σ n L
  | [], n, i, v, h => by simp at h
  | none :: L, n, 0, v, h => by simp at h
  | none :: L, n, i + 1, v, h => by
    have := asc_in σ L (n + 1) i v (by simpa using h)
    rw [show n + (i + 1) = n + 1 + i by omega]; exact this
  | some w :: L, n, 0, v, h => by
    have : w = v := by simpa using h
    subst this
    exact List.mem_cons_self
  | some w :: L, n, i + 1, v, h => by
    have := asc_in σ L (n + 1) i v (by simpa using h)
    rw [show n + (i + 1) = n + 1 + i by omega]
    exact List.mem_cons_of_mem _ this
theorem lvR.has {σ : Nat → Nat} {ls : Array Slot} {nL : Nat} {L : List (Option Value)} (h : lvR σ ls nL L) : lv_has ls nL (asc σ 0 L) := by
  refine ⟨h.1, h.2.1, fun q hq => ?_⟩
  obtain ⟨i, v, h1, rfl⟩ := asc_of σ L 0 q hq
  have := h.2.2 i v h1
  simpa using this
theorem lset_get : ∀ (L : List (Option Value)) (i j : Nat) (v w : Value), (lset L i v)[j]? = some (some w) → (j = i ∧ w = v) ∨ (j ≠ i ∧ L[j]? = some (some w) ∧ ¬ (j + 1 = i ∧ w.category = 2))
  | [], i, j, v, w, h => by simp [lset] at h
  | o :: L, 0, 0, v, w, h => by
    simp [lset] at h
    exact Or.inl ⟨rfl, h.symm⟩
  | o :: L, 0, j + 1, v, w, h => by
    simp [lset] at h
    exact Or.inr ⟨by omega, by simpa using h, by omega⟩
  | o :: L, 1, 0, v, w, h => by
    simp only [lset, List.getElem?_cons_zero, Option.some.injEq] at h
    refine Or.inr ⟨by omega, ?_, ?_⟩
    · cases o with
      | none => simp [kil] at h
      | some u => cases u <;> simp [kil] at h <;> simp [h]
    · rintro ⟨-, hw⟩
      cases o with
      | none => simp [kil] at h
      | some u => cases u <;> simp [kil] at h <;> subst h <;> simp [Value.category] at hw
  | o :: L, 1, j + 1, v, w, h => by
    have h1 := lset_get L 0 j v w (by simpa [lset] using h)
    rcases h1 with ⟨a, b⟩ | ⟨a, b, -⟩
    · exact Or.inl ⟨by omega, b⟩
    · exact Or.inr ⟨by omega, by simpa using b, by omega⟩
  | o :: L, i + 2, 0, v, w, h => by
    refine Or.inr ⟨by omega, by simpa [lset] using h, by omega⟩
  | o :: L, i + 2, j + 1, v, w, h => by
    have h1 := lset_get L (i + 1) j v w (by simpa [lset] using h)
    rcases h1 with ⟨a, b⟩ | ⟨a, b, d⟩
    · exact Or.inl ⟨by omega, b⟩
    · exact Or.inr ⟨by omega, by simpa using b, fun q => d ⟨by omega, q.2⟩⟩
theorem lvR.set1 {σ : Nat → Nat} {ls' : Array Slot} {nL i : Nat} {L : List (Option Value)} {v : Value} (h : lv_has ls' nL ((i, av σ v) :: (asc σ 0 L).filter (fun q => !(q.1 == i) && !(q.1 + 1 == i && q.2.category == 2)))) : lvR σ ls' nL (lset L i v) := by
  refine ⟨h.1, h.2.1, fun j w hj => ?_⟩
  rcases lset_get L i j v w hj with ⟨rfl, rfl⟩ | ⟨h1, h2, h3⟩
  · exact h.2.2 _ List.mem_cons_self
  · refine h.2.2 (j, av σ w) (List.mem_cons_of_mem _ (List.mem_filter.mpr ⟨?_, ?_⟩))
    · have := asc_in σ L 0 j w h2
      simpa using this
    · simp only [av_cat, Bool.and_eq_true, Bool.not_eq_true', beq_eq_false_iff_ne, ne_eq, Bool.and_eq_false_iff]
      refine ⟨h1, ?_⟩
      by_cases q : j + 1 = i
      · exact Or.inr (fun z => h3 ⟨q, z⟩)
      · exact Or.inl q
def lset2 (L : List (Option Value)) (i : Nat) (v : Value) : List (Option Value) := (lset L i v).set (i + 1) none
theorem lvR.set2 {σ : Nat → Nat} {ls' : Array Slot} {nL i : Nat} {L : List (Option Value)} {v : Value} (h : lv_has ls' nL ((i, av σ v) :: (asc σ 0 L).filter (fun q => !(q.1 == i) && (!(q.1 == i + 1) && !(q.1 + 1 == i && q.2.category == 2))))) : lvR σ ls' nL (lset2 L i v) := by
  refine ⟨h.1, h.2.1, fun j w hj => ?_⟩
  unfold lset2 at hj
  rw [List.getElem?_set] at hj
  by_cases hji : i + 1 = j
  · rw [if_pos hji] at hj
    split at hj <;> simp at hj
  · rw [if_neg hji] at hj
    rcases lset_get L i j v w hj with ⟨rfl, rfl⟩ | ⟨h1, h2, h3⟩
    · exact h.2.2 _ List.mem_cons_self
    · refine h.2.2 (j, av σ w) (List.mem_cons_of_mem _ (List.mem_filter.mpr ⟨?_, ?_⟩))
      · have := asc_in σ L 0 j w h2
        simpa using this
      · simp only [av_cat, Bool.and_eq_true, Bool.not_eq_true', beq_eq_false_iff_ne, ne_eq, Bool.and_eq_false_iff]
        refine ⟨h1, fun q => hji q.symm, ?_⟩
        by_cases q : j + 1 = i
        · exact Or.inr (fun z => h3 ⟨q, z⟩)
        · exact Or.inl q
theorem lvR.less {σ : Nat → Nat} {ls : Array Slot} {nL : Nat} {L L' : List (Option Value)} (h : lvR σ ls nL L) (hl : ∀ (i : Nat) (v : Value), L'[i]? = some (some v) → L[i]? = some (some v)) : lvR σ ls nL L' := ⟨h.1, h.2.1, fun i v q => h.2.2 i v (hl i v q)⟩
theorem lvR.at {σ : Nat → Nat} {ls : Array Slot} {nL : Nat} {L : List (Option Value)} (h : lvR σ ls nL L) {i : Nat} {v : Value} (hi : L[i]? = some (some v)) : ls[i]? = some (.val (av σ v)) := h.2.2 i v hi
def agr (n n' : Nat) (σ σ' : Nat → Nat) : Prop := (∀ j, j < n ∨ 1000 ≤ j → σ' j = σ j) ∧ (n' = n → σ' = σ)
theorem lvR.moved {σ σ' : Nat → Nat} {ls : Array Slot} {nL : Nat} {L : List (Option Value)} (h : lvR σ ls nL L) (hr : ∀ (i k : Nat), L[i]? = some (some (.ref k)) → σ' k = σ k) : lvR σ' ls nL L := by
  refine ⟨h.1, h.2.1, fun i v q => ?_⟩
  rw [h.2.2 i v q]
  cases v <;> try rfl
  simp [av, hr i _ q]
end
section
/-! what holds of a method's frame, and the judgement Ok: from here the machine comes to the frame's return with the answer of x -/
def heapL : List Int32 := [0, 1, 0, 1, 2, 3, 2]
def RM (d mc ms : Nat) : Room := { frames := d, cells := mc, slots := ms, locals := 40 * d }
def RmOk (d mc ms : Nat) (R : Room) : Prop := d ≤ R.frames ∧ 40 * d ≤ R.locals ∧ mc ≤ R.cells ∧ ms ≤ R.slots
def Zs (σ : Nat → Nat) (A : Nat → Prop) (U : State) (H : Heap) : Prop := vk_S strN strLen strByt (fun i => σ (1000 + i)) (fun i => σ (1100 + i)) A U H ∧ va_Z "java/lang/String" "COMPACT_STRINGS" "Z" (.int 1) A U H ∧ (va_Z "jdk/internal/util/Preconditions" "SIOOBE_FORMATTER" "Ljava/util/function/BiFunction;" .null A U H ∨ va_Z "jdk/internal/util/Preconditions" "SIOOBE_FORMATTER" "Ljava/util/function/BiFunction;" (.ref (σ 2001)) A U H) ∧ va_Z "Encores" "HEAP" "[I" (.ref (σ 2000)) A U H ∧ va_T .int (σ 2000) 7 (fun j => .int (heapL.getD j 0)) A U H
theorem Zs.kept {σ : Nat → Nat} {A : Nat → Prop} {U : State} {H H1 : Heap} (h : Zs σ A U H) (hq : ∀ a : Nat, a < H.size → ¬ A a → H1[a]? = H[a]?) : Zs σ A U H1 := by
  obtain ⟨h1, h2, h3, h4, h5⟩ := h
  exact ⟨h1.kept hq, h2.kept hq, h3.imp (fun q => q.kept hq) (fun q => q.kept hq), h4.kept hq, h5.kept hq⟩
theorem Zs.moved {σ : Nat → Nat} {A : Nat → Prop} {u U : State} {H : Heap} (hvm : u.vm.Alike U.vm) (h : Zs σ A u H) : Zs σ A U H := by
  obtain ⟨h1, h2, h3, h4, h5⟩ := h
  exact ⟨h1.moved hvm, h2.moved hvm, h3.imp (fun q => q.moved hvm) (fun q => q.moved hvm), h4.moved hvm, h5.moved hvm⟩
theorem Zs.narrow {σ : Nat → Nat} {A B : Nat → Prop} {U : State} {H : Heap} (h : Zs σ A U H) (hAB : ∀ q, B q → A q) : Zs σ B U H := by
  obtain ⟨h1, h2, h3, h4, h5⟩ := h
  exact ⟨h1.narrow hAB, h2.narrow hAB, h3.imp (fun q => q.narrow hAB) (fun q => q.narrow hAB), h4.narrow hAB, h5.narrow hAB⟩
theorem Zs.agr {σ σ' : Nat → Nat} {A : Nat → Prop} {U : State} {H : Heap} (h : Zs σ A U H) (ha : ∀ j, 1000 ≤ j → σ' j = σ j) : Zs σ' A U H := by
  have e1 : (fun i => σ' (1000 + i)) = (fun i => σ (1000 + i)) := by
    funext i
    exact ha _ (by omega)
  have e2 : (fun i => σ' (1100 + i)) = (fun i => σ (1100 + i)) := by
    funext i
    exact ha _ (by omega)
  unfold Zs at h ⊢
  rw [e1, e2, ha 2000 (by omega), ha 2001 (by omega)]
  exact h
def Vk (σ : Nat → Nat) (U : State) : Prop := ∀ (i : Nat) (q : String × Nat × String), strL[i]? = some q → vk_R q.1 q.2.1 q.2.2 (σ (1000 + i)) U
def Nw (U : State) : Prop := (∀ q ∈ nestL, va_Nw (.methodLinkNest q.1 q.2.1 q.2.2.1 q.2.2.2) U) ∧ va_Nw (.fieldLinkNest "Encores$Programme" 51 "Encores" "HEAP" "[I" "Encores") U ∧ va_AO "Encores$Moment" U
theorem Vk.warm {σ : Nat → Nat} {s U : State} (hW : s.WarmedH U.vm) (h : Vk σ s) : Vk σ U := fun i q hq => (h i q hq).warm hW
theorem Vk.same {σ : Nat → Nat} {u U : State} (hv : U.vm = u.vm) (h : Vk σ u) : Vk σ U := fun i q hq => vk_R.same hv (h i q hq)
theorem Vk.agr {σ σ' : Nat → Nat} {U : State} (h : Vk σ U) (ha : ∀ j, 1000 ≤ j → σ' j = σ j) : Vk σ' U := fun i q hq => by rw [ha _ (by omega)]; exact h i q hq
theorem Nw.warm {s U : State} (hW : s.WarmedH U.vm) (h : Nw s) : Nw U := ⟨fun q hq => va_Nw.warmM hW (h.1 q hq), va_Nw.warmF hW h.2.1, va_AO.moved hW.alike h.2.2⟩
theorem Nw.same {u U : State} (hv : U.vm = u.vm) (h : Nw u) : Nw U := ⟨fun q hq => va_Nw.same rfl hv.symm (h.1 q hq), va_Nw.same rfl hv.symm h.2.1, va_AO.moved (by rw [hv]; exact Vm.Alike.refl _) h.2.2⟩
abbrev tys0 (D : va_G) : List (ClassId × FieldType) := [(D.1 100, .int), (D.1 101, .object "Encores$Moment")]
def Ctx (M : MD) (p : Program) (s : State) (m : MethodId) (args : Array Value) (meth : Method) (c : Code) (D : va_G) (σ : Nat → Nat) : Prop :=
  p.tables.exec = Jvm.exec ∧ c.code = M.1 ∧ c.maxLocals = M.2.2.1 ∧ s.vm.findClass M.2.1.cls = some m.cls ∧ (∀ w ∈ TB, w.before args s = true) ∧ va_K D vwCl (tys0 D) s ∧ meth.name = M.2.1.name ∧ Vk σ s ∧ Nw s
def csz (Sh : List SE) : Nat := Sh.length
def ssz : List SE → Nat
  | [] => 0
  | e :: Sh => e.2.1 + ssz Sh
abbrev Ans : Type := Option (Int32 × Mem)
def RetQ (M : MD) (v : Int32) (μ' : Mem) (Sh Sh' : List SE) (p : Program) (l : Launch) (e : Env) (R : Room) (s : State) (m : MethodId) (args : Array Value) (below : List Frame) (meth : Method) (c : Code) (Q : State → Prop) (D : va_G) (σ : Nat → Nat) (A : Nat → Prop) (mc ms : Nat) : Prop :=
  ∀ (H' : Heap) (locs' : List Loc) (ls' : Array Slot) (σ' : Nat → Nat) (pcr : Nat), agr (csz Sh) (csz Sh') σ σ' → va_P D vwCl (wd σ' D Sh' μ') H' → va_D A (wd σ' D Sh' μ') → va_S A s.heap H' locs' →
    (M.2.2.2 = none → decode M.1 pcr = .ok (.return_, 1) → W p l e R s m args below meth c H' locs' mc ms Q (F0 m pcr ls' [])) ∧
    (∀ ty, M.2.2.2 = some ty → (∀ nm, ty ≠ .object nm) → narrow ty (.int v) = .int v → decode M.1 pcr = .ok (.ireturn, 1) → W p l e R s m args below meth c H' locs' mc ms Q (F0 m pcr ls' [.int v])) ∧
    (∀ n, M.2.2.2 = some (.object n) → decode M.1 pcr = .ok (.areturn, 1) → W p l e R s m args below meth c H' locs' mc ms Q (F0 m pcr ls' [if v = -1 then .null else .ref (σ' v.toNatClampNeg)]))
def Ok (Sh' : List SE) (d : Nat) (M : MD) (pc : Nat) (L : List (Option Value)) (st : List Value) (Sh : List SE) (μ : Mem) (x : Ans) : Prop :=
  ∀ (v : Int32) (μ' : Mem), x = some (v, μ') →
  ∀ (p : Program) (l : Launch) (e : Env) (R : Room) (s : State) (m : MethodId) (args : Array Value) (below : List Frame) (meth : Method) (c : Code) (H : Heap) (locs : List Loc) (cells slots : Nat) (Q : State → Prop) (D : va_G) (σ : Nat → Nat) (A : Nat → Prop) (mc ms : Nat) (ls : Array Slot),
  Ctx M p s m args meth c D σ → Zs σ A s s.heap → (∀ q : Nat, s.heap.size ≤ q → A q) → RmOk d mc ms R → va_P D vwCl (wd σ D Sh μ) H → va_D A (wd σ D Sh μ) → va_S A s.heap H locs → lvR σ ls M.2.2.1 L →
  cells + csz Sh' = mc + csz Sh → slots + ssz Sh' = ms + ssz Sh → RetQ M v μ' Sh Sh' p l e R s m args below meth c Q D σ A mc ms →
  W p l e R s m args below meth c H locs cells slots Q (F0 m pc ls (st.map (av σ)))
section OK
variable {Sh' Sh : List SE} {d : Nat} {M : MD} {pc : Nat} {L : List (Option Value)} {st : List Value} {μ : Mem} {x : Ans}
theorem Ok.none : Ok Sh' d M pc L st Sh μ none := fun v μ' h => by cases h
theorem Ok.less {L' : List (Option Value)} (hl : ∀ (i : Nat) (v : Value), L'[i]? = some (some v) → L[i]? = some (some v)) (k : Ok Sh' d M pc L' st Sh μ x) : Ok Sh' d M pc L st Sh μ x :=
  fun v μ' hx p l e R s m args below meth c H locs cells slots Q D σ A mc ms ls C Z hA hR hP hD hS hL h1 h2 hQ => k v μ' hx p l e R s m args below meth c H locs cells slots Q D σ A mc ms ls C Z hA hR hP hD hS (hL.less hl) h1 h2 hQ
def lsub : List (Option Value) → List (Option Value) → Prop
  | [], _ => True
  | none :: L', _ :: L => lsub L' L
  | some v :: L', o :: L => o = some v ∧ lsub L' L
  | none :: L', [] => lsub L' []
  | some _ :: _, [] => False
theorem lsub_get : ∀ (L' L : List (Option Value)), lsub L' L → ∀ (i : Nat) (v : Value), L'[i]? = some (some v) → L[i]? = some (some v)
  | [], _, _, i, v, h => by simp at h
  | none :: L', _ :: L, hs, 0, v, h => by simp at h
  | none :: L', _ :: L, hs, i + 1, v, h => by simpa using lsub_get L' L hs i v (by simpa using h)
  | some w :: L', o :: L, hs, 0, v, h => by
    obtain ⟨rfl, -⟩ := hs
    simpa using h
  | some w :: L', o :: L, hs, i + 1, v, h => by simpa using lsub_get L' L hs.2 i v (by simpa using h)
  | none :: L', [], hs, 0, v, h => by simp at h
  | none :: L', [], hs, i + 1, v, h => by
    have := lsub_get L' [] hs i v (by simpa using h)
    simp at this
  | some _ :: _, [], hs, _, _, _ => hs.elim
theorem ok_less (L' : List (Option Value)) (hl : lsub L' L) (k : Ok Sh' d M pc L' st Sh μ x) : Ok Sh' d M pc L st Sh μ x := Ok.less (lsub_get L' L hl) k
/-- one instruction that moves the frame alone -/
def Go (M : MD) (pc : Nat) (L : List (Option Value)) (st : List Value) (n : Nat) (st' : List Value) (Sh : List SE) (μ : Mem) : Prop :=
  ∀ {p : Program} {l : Launch} {e : Env} {R : Room} {s : State} {m : MethodId} {args : Array Value} {below : List Frame} {meth : Method} {c : Code} {H : Heap} {locs : List Loc} {cells slots : Nat} {Q : State → Prop} {D : va_G} {σ : Nat → Nat} {ls : Array Slot},
  Ctx M p s m args meth c D σ → va_P D vwCl (wd σ D Sh μ) H → lvR σ ls M.2.2.1 L → W p l e R s m args below meth c H locs cells slots Q (F0 m n ls (st'.map (av σ))) → W p l e R s m args below meth c H locs cells slots Q (F0 m pc ls (st.map (av σ)))
theorem Ok.go {n : Nat} {st' : List Value} (g : Go M pc L st n st' Sh μ) (k : Ok Sh' d M n L st' Sh μ x) : Ok Sh' d M pc L st Sh μ x :=
  fun v μ' hx p l e R s m args below meth c H locs cells slots Q D σ A mc ms ls C Z hA hR hP hD hS hL h1 h2 hQ => g C hP hL (k v μ' hx p l e R s m args below meth c H locs cells slots Q D σ A mc ms ls C Z hA hR hP hD hS hL h1 h2 hQ)
variable {a b : Int32} {r : Nat} {w w2 : Value}
theorem ok_iconst (n : Nat) {z : Int} (a : Int32) (hd : decode M.1 pc = .ok (.iconst z, 1)) (hp : pc + 1 = n) (hv : Int32.ofInt z = a) (k : Ok Sh' d M n L (.int a :: st) Sh μ x) : Ok Sh' d M pc L st Sh μ x := by
  subst hp; exact Ok.go (fun C _ _ => lv_iconst C.1 C.2.1 hd hv) k
theorem ok_bipush (n : Nat) {z : Int} (a : Int32) (hd : decode M.1 pc = .ok (.bipush z, 2)) (hp : pc + 2 = n) (hv : (Int8.ofInt z).toInt32 = a) (k : Ok Sh' d M n L (.int a :: st) Sh μ x) : Ok Sh' d M pc L st Sh μ x := by
  subst hp; exact Ok.go (fun C _ _ => lv_bipush C.1 C.2.1 hd hv) k
theorem ok_sipush (n : Nat) {z : Int} (a : Int32) (hd : decode M.1 pc = .ok (.sipush z, 3)) (hp : pc + 3 = n) (hv : (Int16.ofInt z).toInt32 = a) (k : Ok Sh' d M n L (.int a :: st) Sh μ x) : Ok Sh' d M pc L st Sh μ x := by
  subst hp; exact Ok.go (fun C _ _ => lv_sipush C.1 C.2.1 hd hv) k
theorem ok_ldc (n : Nat) {own : String} {i : Nat} (a : Int32) (hd : decode M.1 pc = .ok (.ldc i, 2)) (hp : pc + 2 = n) (ho : M.2.1.cls = own) (hw : Cond.constant own i a ∈ TB) (k : Ok Sh' d M n L (.int a :: st) Sh μ x) : Ok Sh' d M pc L st Sh μ x := by
  subst hp; subst ho; exact Ok.go (fun C _ _ => lv_ldc C.1 C.2.1 C.2.2.2.1 (C.2.2.2.2.1 _ hw) hd) k
theorem ok_ldcw (n : Nat) {own : String} {i : Nat} (a : Int32) (hd : decode M.1 pc = .ok (.ldc_w i, 3)) (hp : pc + 3 = n) (ho : M.2.1.cls = own) (hw : Cond.constant own i a ∈ TB) (k : Ok Sh' d M n L (.int a :: st) Sh μ x) : Ok Sh' d M pc L st Sh μ x := by
  subst hp; subst ho; exact Ok.go (fun C _ _ => lv_ldcw C.1 C.2.1 C.2.2.2.1 (C.2.2.2.2.1 _ hw) hd) k
theorem ok_ldc2 (n : Nat) {own : String} {i : Nat} (a : Int64) (hd : decode M.1 pc = .ok (.ldc2_w i, 3)) (hp : pc + 3 = n) (ho : M.2.1.cls = own) (hw : Cond.constantLong own i a ∈ TB) (k : Ok Sh' d M n L (.long a :: st) Sh μ x) : Ok Sh' d M pc L st Sh μ x := by
  subst hp; subst ho; exact Ok.go (fun C _ _ => lv_ldc2 C.1 C.2.1 C.2.2.2.1 (C.2.2.2.2.1 _ hw) hd) k
theorem ok_lconst (n : Nat) {z : Fin 2} (a : Int64) (hd : decode M.1 pc = .ok (.lconst z, 1)) (hp : pc + 1 = n) (hv : Int64.ofNat (z : Nat) = a) (k : Ok Sh' d M n L (.long a :: st) Sh μ x) : Ok Sh' d M pc L st Sh μ x := by
  subst hp; exact Ok.go (fun C _ _ => lv_lconst C.1 C.2.1 hd hv) k
theorem ok_iload_n (n i : Nat) {z : Fin 4} (hd : decode M.1 pc = .ok (.iload_n z, 1)) (hp : pc + 1 = n) (hi : (z : Nat) = i) (hl : L[i]? = some (some (.int a))) (k : Ok Sh' d M n L (.int a :: st) Sh μ x) : Ok Sh' d M pc L st Sh μ x := by
  subst hp; exact Ok.go (fun C _ h => lv_iload_n C.1 C.2.1 hd hi (h.at hl)) k
theorem ok_iload (n i : Nat) (hd : decode M.1 pc = .ok (.iload i, 2)) (hp : pc + 2 = n) (hl : L[i]? = some (some (.int a))) (k : Ok Sh' d M n L (.int a :: st) Sh μ x) : Ok Sh' d M pc L st Sh μ x := by
  subst hp; exact Ok.go (fun C _ h => lv_iload C.1 C.2.1 hd (h.at hl)) k
theorem ok_aload_n (n i : Nat) {z : Fin 4} (hd : decode M.1 pc = .ok (.aload_n z, 1)) (hp : pc + 1 = n) (hi : (z : Nat) = i) (hl : L[i]? = some (some (.ref r))) (k : Ok Sh' d M n L (.ref r :: st) Sh μ x) : Ok Sh' d M pc L st Sh μ x := by
  subst hp; exact Ok.go (fun C _ h => lv_aload_n C.1 C.2.1 hd hi (h.at hl)) k
theorem ok_lload_n (n i : Nat) {a : Int64} {z : Fin 4} (hd : decode M.1 pc = .ok (.lload_n z, 1)) (hp : pc + 1 = n) (hi : (z : Nat) = i) (hl : L[i]? = some (some (.long a))) (k : Ok Sh' d M n L (.long a :: st) Sh μ x) : Ok Sh' d M pc L st Sh μ x := by
  subst hp; exact Ok.go (fun C _ h => lv_lload_n C.1 C.2.1 hd hi (h.at hl)) k
theorem ok_iadd (n : Nat) (hd : decode M.1 pc = .ok (.iadd, 1)) (hp : pc + 1 = n) (k : Ok Sh' d M n L (.int (a + b) :: st) Sh μ x) : Ok Sh' d M pc L (.int b :: .int a :: st) Sh μ x := by
  subst hp; exact Ok.go (fun C _ _ => lv_iadd C.1 C.2.1 hd) k
theorem ok_isub (n : Nat) (hd : decode M.1 pc = .ok (.isub, 1)) (hp : pc + 1 = n) (k : Ok Sh' d M n L (.int (a - b) :: st) Sh μ x) : Ok Sh' d M pc L (.int b :: .int a :: st) Sh μ x := by
  subst hp; exact Ok.go (fun C _ _ => lv_isub C.1 C.2.1 hd) k
theorem ok_imul (n : Nat) (hd : decode M.1 pc = .ok (.imul, 1)) (hp : pc + 1 = n) (k : Ok Sh' d M n L (.int (a * b) :: st) Sh μ x) : Ok Sh' d M pc L (.int b :: .int a :: st) Sh μ x := by
  subst hp; exact Ok.go (fun C _ _ => lv_imul C.1 C.2.1 hd) k
theorem ok_iand (n : Nat) (hd : decode M.1 pc = .ok (.iand, 1)) (hp : pc + 1 = n) (k : Ok Sh' d M n L (.int (a &&& b) :: st) Sh μ x) : Ok Sh' d M pc L (.int b :: .int a :: st) Sh μ x := by
  subst hp; exact Ok.go (fun C _ _ => lv_iand C.1 C.2.1 hd) k
theorem ok_ior (n : Nat) (hd : decode M.1 pc = .ok (.ior, 1)) (hp : pc + 1 = n) (k : Ok Sh' d M n L (.int (a ||| b) :: st) Sh μ x) : Ok Sh' d M pc L (.int b :: .int a :: st) Sh μ x := by
  subst hp; exact Ok.go (fun C _ _ => lv_ior C.1 C.2.1 hd) k
theorem ok_ixor (n : Nat) (hd : decode M.1 pc = .ok (.ixor, 1)) (hp : pc + 1 = n) (k : Ok Sh' d M n L (.int (a ^^^ b) :: st) Sh μ x) : Ok Sh' d M pc L (.int b :: .int a :: st) Sh μ x := by
  subst hp; exact Ok.go (fun C _ _ => lv_ixor C.1 C.2.1 hd) k
theorem ok_ishl (n : Nat) (hd : decode M.1 pc = .ok (.ishl, 1)) (hp : pc + 1 = n) (k : Ok Sh' d M n L (.int (a <<< (b &&& 31)) :: st) Sh μ x) : Ok Sh' d M pc L (.int b :: .int a :: st) Sh μ x := by
  subst hp; exact Ok.go (fun C _ _ => lv_ishl C.1 C.2.1 hd) k
theorem ok_ishr (n : Nat) (hd : decode M.1 pc = .ok (.ishr, 1)) (hp : pc + 1 = n) (k : Ok Sh' d M n L (.int (a >>> (b &&& 31)) :: st) Sh μ x) : Ok Sh' d M pc L (.int b :: .int a :: st) Sh μ x := by
  subst hp; exact Ok.go (fun C _ _ => lv_ishr C.1 C.2.1 hd) k
def ushr (a b : Int32) : Int32 := (a.toUInt32 >>> (b.toUInt32 &&& Int32.toUInt32 31)).toInt32
theorem ok_iushr (n : Nat) (hd : decode M.1 pc = .ok (.iushr, 1)) (hp : pc + 1 = n) (k : Ok Sh' d M n L (.int (ushr a b) :: st) Sh μ x) : Ok Sh' d M pc L (.int b :: .int a :: st) Sh μ x := by
  subst hp; exact Ok.go (fun C _ _ => lv_iushr C.1 C.2.1 hd rfl) k
def chk {α : Type} (b : Bool) (x : Option α) : Option α := match b with
  | true => x
  | false => none
theorem ok_chk {b : Bool} (k : b = true → Ok Sh' d M pc L st Sh μ x) : Ok Sh' d M pc L st Sh μ (chk b x) := by
  cases b with
  | true => exact k rfl
  | false => exact Ok.none
def irm (a b : Int32) : Int32 := a - a / b * b
theorem ok_idiv (n : Nat) (hd : decode M.1 pc = .ok (.idiv, 1)) (hp : pc + 1 = n) (k : Ok Sh' d M n L (.int (a / b) :: st) Sh μ x) : Ok Sh' d M pc L (.int b :: .int a :: st) Sh μ (chk (decide (b ≠ 0)) x) := by
  subst hp; exact ok_chk fun h => Ok.go (fun C _ _ => lv_idiv C.1 C.2.1 hd (of_decide_eq_true h)) k
theorem ok_irem (n : Nat) (hd : decode M.1 pc = .ok (.irem, 1)) (hp : pc + 1 = n) (k : Ok Sh' d M n L (.int (irm a b) :: st) Sh μ x) : Ok Sh' d M pc L (.int b :: .int a :: st) Sh μ (chk (decide (b ≠ 0)) x) := by
  subst hp; exact ok_chk fun h => Ok.go (fun C _ _ => lv_irem C.1 C.2.1 hd (of_decide_eq_true h)) k
theorem ok_idivc (n : Nat) (hd : decode M.1 pc = .ok (.idiv, 1)) (hp : pc + 1 = n) (h : b ≠ 0) (k : Ok Sh' d M n L (.int (a / b) :: st) Sh μ x) : Ok Sh' d M pc L (.int b :: .int a :: st) Sh μ x := by
  subst hp; exact Ok.go (fun C _ _ => lv_idiv C.1 C.2.1 hd h) k
theorem ok_iremc (n : Nat) (hd : decode M.1 pc = .ok (.irem, 1)) (hp : pc + 1 = n) (h : b ≠ 0) (k : Ok Sh' d M n L (.int (irm a b) :: st) Sh μ x) : Ok Sh' d M pc L (.int b :: .int a :: st) Sh μ x := by
  subst hp; exact Ok.go (fun C _ _ => lv_irem C.1 C.2.1 hd h) k
theorem ok_i2l (n : Nat) (hd : decode M.1 pc = .ok (.i2l, 1)) (hp : pc + 1 = n) (k : Ok Sh' d M n L (.long a.toInt64 :: st) Sh μ x) : Ok Sh' d M pc L (.int a :: st) Sh μ x := by
  subst hp; exact Ok.go (fun C _ _ => lv_i2l C.1 C.2.1 hd rfl) k
theorem ok_l2i {a : Int64} (n : Nat) (hd : decode M.1 pc = .ok (.l2i, 1)) (hp : pc + 1 = n) (k : Ok Sh' d M n L (.int a.toInt32 :: st) Sh μ x) : Ok Sh' d M pc L (.long a :: st) Sh μ x := by
  subst hp; exact Ok.go (fun C _ _ => lv_l2i C.1 C.2.1 hd rfl) k
theorem ok_lmul {a b : Int64} (n : Nat) (hd : decode M.1 pc = .ok (.lmul, 1)) (hp : pc + 1 = n) (k : Ok Sh' d M n L (.long (a * b) :: st) Sh μ x) : Ok Sh' d M pc L (.long b :: .long a :: st) Sh μ x := by
  subst hp; exact Ok.go (fun C _ _ => lv_lmul C.1 C.2.1 hd) k
def lrm (a b : Int64) : Int64 := a - a / b * b
theorem ok_lremc {a b : Int64} (n : Nat) (hd : decode M.1 pc = .ok (.lrem, 1)) (hp : pc + 1 = n) (h : b ≠ 0) (k : Ok Sh' d M n L (.long (lrm a b) :: st) Sh μ x) : Ok Sh' d M pc L (.long b :: .long a :: st) Sh μ x := by
  subst hp; exact Ok.go (fun C _ _ => lv_lrem C.1 C.2.1 hd h) k
theorem ok_dup (n : Nat) (hd : decode M.1 pc = .ok (.dup, 1)) (hp : pc + 1 = n) (hc : w.category = 1) (k : Ok Sh' d M n L (w :: w :: st) Sh μ x) : Ok Sh' d M pc L (w :: st) Sh μ x := by
  subst hp; exact Ok.go (fun C _ _ => lv_dup C.1 C.2.1 hd ((av_cat _ w).trans hc)) k
theorem ok_dup2 (n : Nat) (hd : decode M.1 pc = .ok (.dup2, 1)) (hp : pc + 1 = n) (hc : w.category = 1) (hc2 : w2.category = 1) (k : Ok Sh' d M n L (w :: w2 :: w :: w2 :: st) Sh μ x) : Ok Sh' d M pc L (w :: w2 :: st) Sh μ x := by
  subst hp; exact Ok.go (fun C _ _ => lv_dup2_11 C.1 C.2.1 hd ((av_cat _ w).trans hc) ((av_cat _ w2).trans hc2)) k
theorem ok_pop (n : Nat) (hd : decode M.1 pc = .ok (.pop, 1)) (hp : pc + 1 = n) (hc : w.category = 1) (k : Ok Sh' d M n L st Sh μ x) : Ok Sh' d M pc L (w :: st) Sh μ x := by
  subst hp; exact Ok.go (fun C _ _ => lv_pop C.1 C.2.1 hd ((av_cat _ w).trans hc)) k
theorem ok_goto (t : Nat) {o : Int} (hd : decode M.1 pc = .ok (.goto o, 3)) (ht : (pc : Int) + o = (t : Int)) (k : Ok Sh' d M t L st Sh μ x) : Ok Sh' d M pc L st Sh μ x := Ok.go (fun C _ _ => lv_goto C.1 C.2.1 hd ht) k
theorem ok_null (n : Nat) (hd : decode M.1 pc = .ok (.aconst_null, 1)) (hp : pc + 1 = n) (k : Ok Sh' d M n L (.null :: st) Sh μ x) : Ok Sh' d M pc L st Sh μ x := by
  subst hp; exact Ok.go (fun C _ _ => lv_null C.1 C.2.1 hd) k
/-! stores of locals -/
def GoL (M : MD) (pc : Nat) (L : List (Option Value)) (st : List Value) (n : Nat) (L' : List (Option Value)) (st' : List Value) : Prop :=
  ∀ {p : Program} {l : Launch} {e : Env} {R : Room} {s : State} {m : MethodId} {args : Array Value} {below : List Frame} {meth : Method} {c : Code} {H : Heap} {locs : List Loc} {cells slots : Nat} {Q : State → Prop} {D : va_G} {σ : Nat → Nat} {ls : Array Slot},
  Ctx M p s m args meth c D σ → lvR σ ls M.2.2.1 L → (∀ ls', lvR σ ls' M.2.2.1 L' → W p l e R s m args below meth c H locs cells slots Q (F0 m n ls' (st'.map (av σ)))) → W p l e R s m args below meth c H locs cells slots Q (F0 m pc ls (st.map (av σ)))
theorem Ok.goL {n : Nat} {L' : List (Option Value)} {st' : List Value} (g : GoL M pc L st n L' st') (k : Ok Sh' d M n L' st' Sh μ x) : Ok Sh' d M pc L st Sh μ x :=
  fun v μ' hx p l e R s m args below meth c H locs cells slots Q D σ A mc ms ls C Z hA hR hP hD hS hL h1 h2 hQ => g C hL (fun ls' hL' => k v μ' hx p l e R s m args below meth c H locs cells slots Q D σ A mc ms ls' C Z hA hR hP hD hS hL' h1 h2 hQ)
theorem ok_istore (n i : Nat) (L' : List (Option Value)) (hd : decode M.1 pc = .ok (.istore i, 2)) (hp : pc + 2 = n) (hi : i < M.2.2.1) (hl : lset L i (.int a) = L') (k : Ok Sh' d M n L' st Sh μ x) : Ok Sh' d M pc L (.int a :: st) Sh μ x := by
  subst hp; subst hl; exact Ok.goL (fun C h kk => lv_istore C.1 C.2.1 hd h.has hi rfl (fun ls' q => kk ls' (lvR.set1 (v := .int a) q))) k
theorem ok_istore_n (n i : Nat) {z : Fin 4} (L' : List (Option Value)) (hd : decode M.1 pc = .ok (.istore_n z, 1)) (hp : pc + 1 = n) (hz : (z : Nat) = i) (hi : i < M.2.2.1) (hl : lset L i (.int a) = L') (k : Ok Sh' d M n L' st Sh μ x) : Ok Sh' d M pc L (.int a :: st) Sh μ x := by
  subst hp; subst hl; exact Ok.goL (fun C h kk => lv_istore_n C.1 C.2.1 hd hz h.has hi rfl (fun ls' q => kk ls' (lvR.set1 (v := .int a) q))) k
theorem ok_astore_n (n i : Nat) {z : Fin 4} (L' : List (Option Value)) (hd : decode M.1 pc = .ok (.astore_n z, 1)) (hp : pc + 1 = n) (hz : (z : Nat) = i) (hi : i < M.2.2.1) (hl : lset L i (.ref r) = L') (k : Ok Sh' d M n L' st Sh μ x) : Ok Sh' d M pc L (.ref r :: st) Sh μ x := by
  subst hp; subst hl; exact Ok.goL (fun C h kk => lv_astore_n C.1 C.2.1 hd hz h.has hi rfl (fun ls' q => kk ls' (lvR.set1 (v := .ref r) q))) k
theorem ok_lstore_n {a : Int64} (n i : Nat) {z : Fin 4} (L' : List (Option Value)) (hd : decode M.1 pc = .ok (.lstore_n z, 1)) (hp : pc + 1 = n) (hz : (z : Nat) = i) (hi : i + 1 < M.2.2.1) (hl : lset2 L i (.long a) = L') (k : Ok Sh' d M n L' st Sh μ x) : Ok Sh' d M pc L (.long a :: st) Sh μ x := by
  subst hp; subst hl; exact Ok.goL (fun C h kk => lv_lstore_n C.1 C.2.1 hd hz h.has hi rfl (fun ls' q => kk ls' (lvR.set2 (v := .long a) q))) k
theorem ok_iinc (n i : Nat) {z : Int} {a : Int32} (b : Int32) (L' : List (Option Value)) (hd : decode M.1 pc = .ok (.iinc i z, 3)) (hp : pc + 3 = n) (hg : L[i]? = some (some (.int a))) (hv : Int32.ofInt z = b) (hi : i < M.2.2.1) (hl : lset L i (.int (a + b)) = L') (k : Ok Sh' d M n L' st Sh μ x) : Ok Sh' d M pc L st Sh μ x := by
  subst hp; subst hl; subst hv
  refine Ok.goL (fun {_ _ _ _ _ _ _ _ _ _ _ _ _ _ _ _ σ _} C h kk => ?_) k
  have hm := asc_in σ L 0 i _ hg
  obtain ⟨k, hk⟩ := List.getElem?_of_mem hm
  rw [Nat.zero_add] at hk
  exact lv_iinc C.1 C.2.1 hd h.has (k := k) hk rfl hi rfl (fun ls' q => kk ls' (lvR.set1 (v := .int (a + Int32.ofInt z)) q))
/-! branches -/
theorem Ok.br {t n : Nat} {st' : List Value} {P : Prop} {x1 x2 : Ans} [hdec : Decidable P] (g : ∀ {p : Program} {l : Launch} {e : Env} {R : Room} {s : State} {m : MethodId} {args : Array Value} {below : List Frame} {meth : Method} {c : Code} {H : Heap} {locs : List Loc} {cells slots : Nat} {Q : State → Prop} {D : va_G} {σ : Nat → Nat} {ls : Array Slot},
    Ctx M p s m args meth c D σ → (P → W p l e R s m args below meth c H locs cells slots Q (F0 m t ls (st'.map (av σ)))) → (¬ P → W p l e R s m args below meth c H locs cells slots Q (F0 m n ls (st'.map (av σ)))) → W p l e R s m args below meth c H locs cells slots Q (F0 m pc ls (st.map (av σ))))
    (kt : P → Ok Sh' d M t L st' Sh μ x1) (kf : ¬ P → Ok Sh' d M n L st' Sh μ x2) : Ok Sh' d M pc L st Sh μ (if P then x1 else x2) := by
  intro v μ' hx p l e R s m args below meth c H locs cells slots Q D σ A mc ms ls C Z hA hR hP hD hS hL h1 h2 hQ
  refine g C (fun q => kt q v μ' (by rw [if_pos q] at hx; exact hx) p l e R s m args below meth c H locs cells slots Q D σ A mc ms ls C Z hA hR hP hD hS hL h1 h2 hQ) (fun q => kf q v μ' (by rw [if_neg q] at hx; exact hx) p l e R s m args below meth c H locs cells slots Q D σ A mc ms ls C Z hA hR hP hD hS hL h1 h2 hQ)
end OK
end
section
section OK2
variable {Sh' Sh : List SE} {d : Nat} {M : MD} {pc : Nat} {L : List (Option Value)} {st : List Value} {μ : Mem} {x x1 x2 : Ans} {a b : Int32} {r : Nat}
/-! branches -/
theorem ok_icmp_eq (t n : Nat) {o : Int} (hd : decode M.1 pc = .ok (.if_icmp .eq o, 3)) (ht : (pc : Int) + o = (t : Int)) (hp : pc + 3 = n) (kt : a = b → Ok Sh' d M t L st Sh μ x1) (kf : ¬ a = b → Ok Sh' d M n L st Sh μ x2) : Ok Sh' d M pc L (.int b :: .int a :: st) Sh μ (if a = b then x1 else x2) := by
  subst hp; exact Ok.br (fun C k1 k2 => lv_icmp_eq C.1 C.2.1 hd ht k1 k2) kt kf
theorem ok_icmp_ne (t n : Nat) {o : Int} (hd : decode M.1 pc = .ok (.if_icmp .ne o, 3)) (ht : (pc : Int) + o = (t : Int)) (hp : pc + 3 = n) (kt : ¬ a = b → Ok Sh' d M t L st Sh μ x2) (kf : a = b → Ok Sh' d M n L st Sh μ x1) : Ok Sh' d M pc L (.int b :: .int a :: st) Sh μ (if a = b then x1 else x2) := by
  subst hp; exact Ok.br (fun C k1 k2 => lv_icmp_ne C.1 C.2.1 hd ht k2 k1) kf kt
theorem ok_icmp_lt (t n : Nat) {o : Int} (hd : decode M.1 pc = .ok (.if_icmp .lt o, 3)) (ht : (pc : Int) + o = (t : Int)) (hp : pc + 3 = n) (kt : a < b → Ok Sh' d M t L st Sh μ x1) (kf : ¬ a < b → Ok Sh' d M n L st Sh μ x2) : Ok Sh' d M pc L (.int b :: .int a :: st) Sh μ (if a < b then x1 else x2) := by
  subst hp; exact Ok.br (fun C k1 k2 => lv_icmp_lt C.1 C.2.1 hd ht k1 k2) kt kf
theorem ok_icmp_ge (t n : Nat) {o : Int} (hd : decode M.1 pc = .ok (.if_icmp .ge o, 3)) (ht : (pc : Int) + o = (t : Int)) (hp : pc + 3 = n) (kt : b ≤ a → Ok Sh' d M t L st Sh μ x1) (kf : ¬ b ≤ a → Ok Sh' d M n L st Sh μ x2) : Ok Sh' d M pc L (.int b :: .int a :: st) Sh μ (if b ≤ a then x1 else x2) := by
  subst hp; exact Ok.br (fun C k1 k2 => lv_icmp_ge C.1 C.2.1 hd ht k1 k2) kt kf
theorem ok_icmp_gt (t n : Nat) {o : Int} (hd : decode M.1 pc = .ok (.if_icmp .gt o, 3)) (ht : (pc : Int) + o = (t : Int)) (hp : pc + 3 = n) (kt : b < a → Ok Sh' d M t L st Sh μ x1) (kf : ¬ b < a → Ok Sh' d M n L st Sh μ x2) : Ok Sh' d M pc L (.int b :: .int a :: st) Sh μ (if b < a then x1 else x2) := by
  subst hp; exact Ok.br (fun C k1 k2 => lv_icmp_gt C.1 C.2.1 hd ht k1 k2) kt kf
theorem ok_icmp_le (t n : Nat) {o : Int} (hd : decode M.1 pc = .ok (.if_icmp .le o, 3)) (ht : (pc : Int) + o = (t : Int)) (hp : pc + 3 = n) (kt : a ≤ b → Ok Sh' d M t L st Sh μ x1) (kf : ¬ a ≤ b → Ok Sh' d M n L st Sh μ x2) : Ok Sh' d M pc L (.int b :: .int a :: st) Sh μ (if a ≤ b then x1 else x2) := by
  subst hp; exact Ok.br (fun C k1 k2 => lv_icmp_le C.1 C.2.1 hd ht k1 k2) kt kf
theorem ok_if_eq (t n : Nat) {o : Int} (hd : decode M.1 pc = .ok (.ifCond .eq o, 3)) (ht : (pc : Int) + o = (t : Int)) (hp : pc + 3 = n) (kt : a = 0 → Ok Sh' d M t L st Sh μ x1) (kf : ¬ a = 0 → Ok Sh' d M n L st Sh μ x2) : Ok Sh' d M pc L (.int a :: st) Sh μ (if a = 0 then x1 else x2) := by
  subst hp; exact Ok.br (fun C k1 k2 => lv_if_eq C.1 C.2.1 hd ht k1 k2) kt kf
theorem ok_if_ne (t n : Nat) {o : Int} (hd : decode M.1 pc = .ok (.ifCond .ne o, 3)) (ht : (pc : Int) + o = (t : Int)) (hp : pc + 3 = n) (kt : ¬ a = 0 → Ok Sh' d M t L st Sh μ x2) (kf : a = 0 → Ok Sh' d M n L st Sh μ x1) : Ok Sh' d M pc L (.int a :: st) Sh μ (if a = 0 then x1 else x2) := by
  subst hp; exact Ok.br (fun C k1 k2 => lv_if_ne C.1 C.2.1 hd ht k2 k1) kf kt
theorem ok_if_lt (t n : Nat) {o : Int} (hd : decode M.1 pc = .ok (.ifCond .lt o, 3)) (ht : (pc : Int) + o = (t : Int)) (hp : pc + 3 = n) (kt : a < 0 → Ok Sh' d M t L st Sh μ x1) (kf : ¬ a < 0 → Ok Sh' d M n L st Sh μ x2) : Ok Sh' d M pc L (.int a :: st) Sh μ (if a < 0 then x1 else x2) := by
  subst hp; exact Ok.br (fun C k1 k2 => lv_if_lt C.1 C.2.1 hd ht k1 k2) kt kf
theorem ok_if_ge (t n : Nat) {o : Int} (hd : decode M.1 pc = .ok (.ifCond .ge o, 3)) (ht : (pc : Int) + o = (t : Int)) (hp : pc + 3 = n) (kt : 0 ≤ a → Ok Sh' d M t L st Sh μ x1) (kf : ¬ 0 ≤ a → Ok Sh' d M n L st Sh μ x2) : Ok Sh' d M pc L (.int a :: st) Sh μ (if 0 ≤ a then x1 else x2) := by
  subst hp; exact Ok.br (fun C k1 k2 => lv_if_ge C.1 C.2.1 hd ht k1 k2) kt kf
theorem ok_if_gt (t n : Nat) {o : Int} (hd : decode M.1 pc = .ok (.ifCond .gt o, 3)) (ht : (pc : Int) + o = (t : Int)) (hp : pc + 3 = n) (kt : 0 < a → Ok Sh' d M t L st Sh μ x1) (kf : ¬ 0 < a → Ok Sh' d M n L st Sh μ x2) : Ok Sh' d M pc L (.int a :: st) Sh μ (if 0 < a then x1 else x2) := by
  subst hp; exact Ok.br (fun C k1 k2 => lv_if_gt C.1 C.2.1 hd ht k1 k2) kt kf
theorem ok_if_le (t n : Nat) {o : Int} (hd : decode M.1 pc = .ok (.ifCond .le o, 3)) (ht : (pc : Int) + o = (t : Int)) (hp : pc + 3 = n) (kt : a ≤ 0 → Ok Sh' d M t L st Sh μ x1) (kf : ¬ a ≤ 0 → Ok Sh' d M n L st Sh μ x2) : Ok Sh' d M pc L (.int a :: st) Sh μ (if a ≤ 0 then x1 else x2) := by
  subst hp; exact Ok.br (fun C k1 k2 => lv_if_le C.1 C.2.1 hd ht k1 k2) kt kf
theorem ok_ifnull (n : Nat) {o : Int} (hd : decode M.1 pc = .ok (.ifnull o, 3)) (hp : pc + 3 = n) (k : Ok Sh' d M n L st Sh μ x) : Ok Sh' d M pc L (.ref r :: st) Sh μ x := by
  subst hp; exact Ok.go (fun C _ _ => lv_ifnull C.1 C.2.1 hd) k
/-! switches -/
def AllOk (Sh' : List SE) (d : Nat) (M : MD) (L : List (Option Value)) (st : List Value) (Sh : List SE) (μ : Mem) : List Nat → List Ans → Prop
  | t :: ts, x :: xs => Ok Sh' d M t L st Sh μ x ∧ AllOk Sh' d M L st Sh μ ts xs
  | [], [] => True
  | _, _ => False
theorem AllOk.get {ts : List Nat} {xs : List Ans} (h : AllOk Sh' d M L st Sh μ ts xs) : ∀ (j : Nat) (t : Nat), ts[j]? = some t → ∃ x, xs[j]? = some x ∧ Ok Sh' d M t L st Sh μ x := by
  induction ts generalizing xs with
  | nil => intro j t q; simp at q
  | cons t0 ts ih =>
    cases xs with
    | nil => exact h.elim
    | cons x0 xs =>
      intro j t q
      cases j with
      | zero =>
        have : t0 = t := by simpa using q
        subst this
        exact ⟨x0, rfl, h.1⟩
      | succ j => exact ih h.2 j t (by simpa using q)
def swt {α : Type} (i : Int) (xs : List α) (z : α) : α := if i < 0 then z else xs.getD i.toNat z
theorem ok_tsw (td : Nat) (ts : List Nat) {dflt lo hi : Int} {offs : Array Int} {len : Nat} {xs : List Ans} (hd : decode M.1 pc = .ok (.tableswitch dflt lo hi offs, len)) (ho : offs.toList = ts.map (fun (t : Nat) => (t : Int) - (pc : Int))) (hlen : hi = lo + ts.length - 1) (ht : (pc : Int) + dflt = (td : Int)) (hx : xs.length = ts.length) (k : AllOk Sh' d M L st Sh μ ts xs) (kd : Ok Sh' d M td L st Sh μ x) : Ok Sh' d M pc L (.int a :: st) Sh μ (swt (a.toInt - lo) xs x) := by
  intro v μ' hv p l e R s m args below meth c H locs cells slots Q D σ A mc ms ls C Z hA hR hP hD hS hL h1 h2 hQ
  by_cases hin : a.toInt < lo ∨ hi < a.toInt
  · refine lv_tableOut C.1 C.2.1 hd hin ht (kd v μ' ?_ p l e R s m args below meth c H locs cells slots Q D σ A mc ms ls C Z hA hR hP hD hS hL h1 h2 hQ)
    rw [← hv]
    unfold swt
    split
    · rfl
    · rw [List.getD_eq_getElem?_getD, List.getElem?_eq_none (by omega)]
      rfl
  · have g1 : ¬ a.toInt < lo := fun q => hin (Or.inl q)
    have g2 : ¬ hi < a.toInt := fun q => hin (Or.inr q)
    have hj : (a.toInt - lo).toNat < ts.length := by omega
    obtain ⟨t, hts⟩ : ∃ t, ts[(a.toInt - lo).toNat]? = some t := ⟨_, List.getElem?_eq_getElem hj⟩
    obtain ⟨x0, hx0, kx⟩ := k.get _ _ hts
    have hoff : offs[(a.toInt - lo).toNat]? = some ((t : Int) - (pc : Int)) := by
      rw [← Array.getElem?_toList, ho, List.getElem?_map, hts]
      rfl
    refine lv_tableIn C.1 C.2.1 hd g1 g2 hoff (tgt := t) (by omega) (kx v μ' ?_ p l e R s m args below meth c H locs cells slots Q D σ A mc ms ls C Z hA hR hP hD hS hL h1 h2 hQ)
    rw [← hv]
    unfold swt
    rw [if_neg (by omega), List.getD_eq_getElem?_getD, hx0]
    rfl
theorem ok_lsw {dflt : Int} {ps : Array (Int × Int)} {len : Nat} (hd : decode M.1 pc = .ok (.lookupswitch dflt ps, len)) (hp : (ps.toList.zip (ps.toList.drop 1)).all (fun (a, next) => a.1 < next.1) = true) (k : ∃ t : Nat, (pc : Int) + Op.lookupswitch.offset ps.toList dflt a.toInt = (t : Int) ∧ Ok Sh' d M t L st Sh μ x) : Ok Sh' d M pc L (.int a :: st) Sh μ x := by
  obtain ⟨t, ht, k⟩ := k
  exact Ok.go (fun C _ _ => lv_lookup C.1 C.2.1 hd hp rfl ht) k
/-! returns -/
def isB (a : Int32) : Bool := decide (a = 0 ∨ a = 1)
theorem isB_n {a : Int32} (h : isB a = true) : narrow .boolean (.int a) = .int a := by
  rcases of_decide_eq_true h with rfl | rfl <;> rfl
theorem isB_f {a : Int32} (h : isB a = true) : fits .boolean (.int a) = true := by
  rcases of_decide_eq_true h with rfl | rfl <;> decide
theorem agr.rf (n n' : Nat) (σ : Nat → Nat) : agr n n' σ σ := ⟨fun _ _ => rfl, fun _ => rfl⟩
theorem ok_iretT {ty : FieldType} (hd : decode M.1 pc = .ok (.ireturn, 1)) (hr : M.2.2.2 = some ty) (hty : ∀ nm, ty ≠ .object nm) (hn : narrow ty (.int a) = .int a) : Ok Sh d M pc L [.int a] Sh μ (some (a, μ)) := by
  intro v μ' hv p l e R s m args below meth c H locs cells slots Q D σ A mc ms ls C Z hA hR hP hD hS hL h1 h2 hQ
  cases hv
  have e1 : cells = mc := by omega
  have e2 : slots = ms := by omega
  subst e1; subst e2
  exact (hQ H locs ls σ pc (agr.rf _ _ _) hP hD hS).2.1 ty hr hty hn hd
theorem ok_iret (hd : decode M.1 pc = .ok (.ireturn, 1)) (hr : M.2.2.2 = some .int) : Ok Sh d M pc L [.int a] Sh μ (some (a, μ)) := ok_iretT hd hr (fun _ h => by cases h) rfl
theorem ok_zret (hd : decode M.1 pc = .ok (.ireturn, 1)) (hr : M.2.2.2 = some .boolean) : Ok Sh d M pc L [.int a] Sh μ (chk (isB a) (some (a, μ))) := ok_chk fun h => ok_iretT hd hr (fun _ h => by cases h) (isB_n h)
theorem ok_zretc (hd : decode M.1 pc = .ok (.ireturn, 1)) (hr : M.2.2.2 = some .boolean) (h : isB a = true) : Ok Sh d M pc L [.int a] Sh μ (some (a, μ)) := ok_iretT hd hr (fun _ h => by cases h) (isB_n h)
theorem ok_vret (hd : decode M.1 pc = .ok (.return_, 1)) (hr : M.2.2.2 = none) : Ok Sh d M pc L [] Sh μ (some (0, μ)) := by
  intro v μ' hv p l e R s m args below meth c H locs cells slots Q D σ A mc ms ls C Z hA hR hP hD hS hL h1 h2 hQ
  cases hv
  have e1 : cells = mc := by omega
  have e2 : slots = ms := by omega
  subst e1; subst e2
  exact (hQ H locs ls σ pc (agr.rf _ _ _) hP hD hS).1 hr hd
theorem ok_aretn {nm : String} (hd : decode M.1 pc = .ok (.areturn, 1)) (hr : M.2.2.2 = some (.object nm)) : Ok Sh d M pc L [.null] Sh μ (some (-1, μ)) := by
  intro v μ' hv p l e R s m args below meth c H locs cells slots Q D σ A mc ms ls C Z hA hR hP hD hS hL h1 h2 hQ
  cases hv
  have e1 : cells = mc := by omega
  have e2 : slots = ms := by omega
  subst e1; subst e2
  exact (hQ H locs ls σ pc (agr.rf _ _ _) hP hD hS).2.2 nm hr hd
theorem nI_ne_m1 {n : Nat} (h : n < 2 ^ 31) : ¬ nI n = -1 := by
  intro q
  have := nI_toInt h
  rw [q] at this
  have h2 : ((-1 : Int32)).toInt = -1 := by decide
  omega
theorem ok_aretr {nm : String} (hd : decode M.1 pc = .ok (.areturn, 1)) (hr : M.2.2.2 = some (.object nm)) (hb : r < 2 ^ 31) : Ok Sh d M pc L [.ref r] Sh μ (some (nI r, μ)) := by
  intro v μ' hv p l e R s m args below meth c H locs cells slots Q D σ A mc ms ls C Z hA hR hP hD hS hL h1 h2 hQ
  cases hv
  have e1 : cells = mc := by omega
  have e2 : slots = ms := by omega
  subst e1; subst e2
  have := (hQ H locs ls σ pc (agr.rf _ _ _) hP hD hS).2.2 nm hr hd
  rw [if_neg (nI_ne_m1 hb), nI_clamp hb] at this
  exact this
/-! names for values -/
def bnd {α β : Type} (e : α) (f : α → β) : β := f e
theorem ok_bndI {e : Int32} {f : Int32 → Ans} (k : ∀ a, Ok Sh' d M pc L (.int a :: st) Sh μ (f a)) : Ok Sh' d M pc L (.int e :: st) Sh μ (bnd e f) := k e
theorem ok_bndL {e : Int64} {f : Int64 → Ans} (k : ∀ a, Ok Sh' d M pc L (.long a :: st) Sh μ (f a)) : Ok Sh' d M pc L (.long e :: st) Sh μ (bnd e f) := k e
theorem ok_bndM {e : Mem} {f : Mem → Ans} (k : ∀ μ, Ok Sh' d M pc L st Sh μ (f μ)) : Ok Sh' d M pc L st Sh e (bnd e f) := k e
/-! loops: the body by what goes on -/
def it0 (b : (Mem → Ans) → Mem → Ans) : Nat → Mem → Ans
  | 0 => fun _ => none
  | n + 1 => b (it0 b n)
def it1 {α : Type} (b : (α → Mem → Ans) → α → Mem → Ans) : Nat → α → Mem → Ans
  | 0 => fun _ _ => none
  | n + 1 => b (it1 b n)
def it2 {α β : Type} (b : (α → β → Mem → Ans) → α → β → Mem → Ans) : Nat → α → β → Mem → Ans
  | 0 => fun _ _ _ => none
  | n + 1 => b (it2 b n)
def it3 {α β γ : Type} (b : (α → β → γ → Mem → Ans) → α → β → γ → Mem → Ans) : Nat → α → β → γ → Mem → Ans
  | 0 => fun _ _ _ _ => none
  | n + 1 => b (it3 b n)
def it4 {α β γ δ : Type} (b : (α → β → γ → δ → Mem → Ans) → α → β → γ → δ → Mem → Ans) : Nat → α → β → γ → δ → Mem → Ans
  | 0 => fun _ _ _ _ _ => none
  | n + 1 => b (it4 b n)
def it5 {α β γ δ ε : Type} (b : (α → β → γ → δ → ε → Mem → Ans) → α → β → γ → δ → ε → Mem → Ans) : Nat → α → β → γ → δ → ε → Mem → Ans
  | 0 => fun _ _ _ _ _ _ => none
  | n + 1 => b (it5 b n)
theorem ok_it0 (Lf : List (Option Value)) {b : (Mem → Ans) → Mem → Ans} (hb : ∀ X, (∀ μ, Ok Sh' d M pc Lf [] Sh μ (X μ)) → ∀ μ, Ok Sh' d M pc Lf [] Sh μ (b X μ)) : ∀ n μ, Ok Sh' d M pc Lf [] Sh μ (it0 b n μ)
  | 0, _ => Ok.none
  | n + 1, μ => hb _ (ok_it0 Lf hb n) μ
theorem ok_it1 {α : Type} (Lf : α → List (Option Value)) {b : (α → Mem → Ans) → α → Mem → Ans} (hb : ∀ X, (∀ a1 μ, Ok Sh' d M pc (Lf a1) [] Sh μ (X a1 μ)) → ∀ a1 μ, Ok Sh' d M pc (Lf a1) [] Sh μ (b X a1 μ)) : ∀ n a1 μ, Ok Sh' d M pc (Lf a1) [] Sh μ (it1 b n a1 μ)
  | 0, _, _ => Ok.none
  | n + 1, a1, μ => hb _ (ok_it1 Lf hb n) a1 μ
theorem ok_it2 {α β : Type} (Lf : α → β → List (Option Value)) {b : (α → β → Mem → Ans) → α → β → Mem → Ans} (hb : ∀ X, (∀ a1 a2 μ, Ok Sh' d M pc (Lf a1 a2) [] Sh μ (X a1 a2 μ)) → ∀ a1 a2 μ, Ok Sh' d M pc (Lf a1 a2) [] Sh μ (b X a1 a2 μ)) : ∀ n a1 a2 μ, Ok Sh' d M pc (Lf a1 a2) [] Sh μ (it2 b n a1 a2 μ)
  | 0, _, _, _ => Ok.none
  | n + 1, a1, a2, μ => hb _ (ok_it2 Lf hb n) a1 a2 μ
theorem ok_it3 {α β γ : Type} (Lf : α → β → γ → List (Option Value)) {b : (α → β → γ → Mem → Ans) → α → β → γ → Mem → Ans} (hb : ∀ X, (∀ a1 a2 a3 μ, Ok Sh' d M pc (Lf a1 a2 a3) [] Sh μ (X a1 a2 a3 μ)) → ∀ a1 a2 a3 μ, Ok Sh' d M pc (Lf a1 a2 a3) [] Sh μ (b X a1 a2 a3 μ)) : ∀ n a1 a2 a3 μ, Ok Sh' d M pc (Lf a1 a2 a3) [] Sh μ (it3 b n a1 a2 a3 μ)
  | 0, _, _, _, _ => Ok.none
  | n + 1, a1, a2, a3, μ => hb _ (ok_it3 Lf hb n) a1 a2 a3 μ
theorem ok_it4 {α β γ δ : Type} (Lf : α → β → γ → δ → List (Option Value)) {b : (α → β → γ → δ → Mem → Ans) → α → β → γ → δ → Mem → Ans} (hb : ∀ X, (∀ a1 a2 a3 a4 μ, Ok Sh' d M pc (Lf a1 a2 a3 a4) [] Sh μ (X a1 a2 a3 a4 μ)) → ∀ a1 a2 a3 a4 μ, Ok Sh' d M pc (Lf a1 a2 a3 a4) [] Sh μ (b X a1 a2 a3 a4 μ)) : ∀ n a1 a2 a3 a4 μ, Ok Sh' d M pc (Lf a1 a2 a3 a4) [] Sh μ (it4 b n a1 a2 a3 a4 μ)
  | 0, _, _, _, _, _ => Ok.none
  | n + 1, a1, a2, a3, a4, μ => hb _ (ok_it4 Lf hb n) a1 a2 a3 a4 μ
theorem ok_it5 {α β γ δ ε : Type} (Lf : α → β → γ → δ → ε → List (Option Value)) {b : (α → β → γ → δ → ε → Mem → Ans) → α → β → γ → δ → ε → Mem → Ans} (hb : ∀ X, (∀ a1 a2 a3 a4 a5 μ, Ok Sh' d M pc (Lf a1 a2 a3 a4 a5) [] Sh μ (X a1 a2 a3 a4 a5 μ)) → ∀ a1 a2 a3 a4 a5 μ, Ok Sh' d M pc (Lf a1 a2 a3 a4 a5) [] Sh μ (b X a1 a2 a3 a4 a5 μ)) : ∀ n a1 a2 a3 a4 a5 μ, Ok Sh' d M pc (Lf a1 a2 a3 a4 a5) [] Sh μ (it5 b n a1 a2 a3 a4 a5 μ)
  | 0, _, _, _, _, _, _ => Ok.none
  | n + 1, a1, a2, a3, a4, a5, μ => hb _ (ok_it5 Lf hb n) a1 a2 a3 a4 a5 μ
end OK2
end
section
/-! classes, fields, arrays -/
def vwC (ci : Nat) : vw_C := vwCl.getD ci ("", fun _ => ("", "", "", false), 0)
def KC (ci : Nat) : Prop := vwCl[ci]? = some (vwC ci) ∧ (∀ w ∈ u_ws (vwC ci).1 (vwC ci).2.1 (vwC ci).2.2, w ∈ TB) ∧ (∃ ty : Nat → FieldType, ∀ k, k < (vwC ci).2.2 → parseFieldDescriptor ((vwC ci).2.1 k).2.2.1 = some (ty k)) ∧ (∀ a, a < (vwC ci).2.2 → ∀ b, b < (vwC ci).2.2 → a ≠ b → ((vwC ci).2.1 a).2.1 ≠ ((vwC ci).2.1 b).2.1) ∧ ∀ a, a < (vwC ci).2.2 → ((vwC ci).2.1 a).1 = (vwC ci).1
theorem kc : ∀ ci, ci < 13 → KC ci := by
  intro ci h
  match ci, h with
  | 0, _ => exact ⟨rfl, us0, ⟨ty0, ty0_ok⟩, nm0, by decide +kernel⟩
  | 1, _ => exact ⟨rfl, us1, ⟨ty1, ty1_ok⟩, nm1, by decide +kernel⟩
  | 2, _ => exact ⟨rfl, us2, ⟨ty2, ty2_ok⟩, nm2, by decide +kernel⟩
  | 3, _ => exact ⟨rfl, us3, ⟨ty3, ty3_ok⟩, nm3, by decide +kernel⟩
  | 4, _ => exact ⟨rfl, us4, ⟨ty4, ty4_ok⟩, nm4, by decide +kernel⟩
  | 5, _ => exact ⟨rfl, us5, ⟨ty5, ty5_ok⟩, nm5, by decide +kernel⟩
  | 6, _ => exact ⟨rfl, us6, ⟨ty6, ty6_ok⟩, nm6, by decide +kernel⟩
  | 7, _ => exact ⟨rfl, us7, ⟨ty7, ty7_ok⟩, nm7, by decide +kernel⟩
  | 8, _ => exact ⟨rfl, us8, ⟨ty8, ty8_ok⟩, nm8, by decide +kernel⟩
  | 9, _ => exact ⟨rfl, us9, ⟨ty9, ty9_ok⟩, nm9, by decide +kernel⟩
  | 10, _ => exact ⟨rfl, us10, ⟨ty10, ty10_ok⟩, nm10, by decide +kernel⟩
  | 11, _ => exact ⟨rfl, us11, ⟨ty11, ty11_ok⟩, nm11, by decide +kernel⟩
  | 12, _ => exact ⟨rfl, us12, ⟨ty12, ty12_ok⟩, nm12, by decide +kernel⟩
/-- what a field's link needs: class ci, field j, by the entry idx of the class own -/
def FL (own : String) (idx ci j : Nat) : Prop := ci < 13 ∧ j < (vwC ci).2.2 ∧ Cond.fieldLink own idx (vwC ci).1 ((vwC ci).2.1 j).2.1 ((vwC ci).2.1 j).2.2.1 ∈ TB
section OK3
variable {Sh' Sh : List SE} {d : Nat} {M : MD} {pc : Nat} {L : List (Option Value)} {st : List Value} {μ : Mem} {x x1 x2 : Ans} {a b i : Int32} {r : Nat} {own : String} {idx ci j : Nat} {e : SE}
theorem ok_getV (n : Nat) {v : Value} (hd : decode M.1 pc = .ok (.getfield idx, 3)) (hp : pc + 3 = n) (ho : M.2.1.cls = own) (fl : FL own idx ci j) (hS : Sh[r]? = some e) (he : e.1 = ci) (hj : j < e.2.1) (hv : ∀ σ, fld σ μ r e j = av σ v) (k : Ok Sh' d M n L (v :: st) Sh μ x) : Ok Sh' d M pc L (.ref r :: st) Sh μ x := by
  subst hp; subst ho; subst he
  obtain ⟨f1, f2, f3⟩ := fl
  obtain ⟨k1, k2, -, -, k5⟩ := kc e.1 f1
  refine Ok.go (fun {_ _ _ _ _ _ _ _ _ _ _ _ _ _ _ _ σ _} C hP _ kk => ?_) k
  refine va_get C.1 C.2.1 C.2.2.2.2.1 k2 C.2.2.2.1 C.2.2.2.2.2.1 hP r (fs := (List.range e.2.1).map (fld σ μ r e)) ((wd_at hS).trans (by rw [ent_obj (by omega)])) k1 j f2 (C.2.2.2.2.1 _ f3) (fun q hq => by rw [k5 j f2] at hq; exact hq) (fs_at hj) hd ?_
  rw [hv]
  exact kk
theorem ok_getI (n : Nat) (hd : decode M.1 pc = .ok (.getfield idx, 3)) (hp : pc + 3 = n) (ho : M.2.1.cls = own) (fl : FL own idx ci j) (hS : Sh[r]? = some e) (he : e.1 = ci) (hj : j < e.2.1) (hr : isR ci j = false) (k : Ok Sh' d M n L (.int (μ r j) :: st) Sh μ x) : Ok Sh' d M pc L (.ref r :: st) Sh μ x :=
  ok_getV n hd hp ho fl hS he hj (fun σ => by subst he; simp [fld, hr, av]) k
theorem ok_getR (n : Nat) {r' : Nat} (hd : decode M.1 pc = .ok (.getfield idx, 3)) (hp : pc + 3 = n) (ho : M.2.1.cls = own) (fl : FL own idx ci j) (hS : Sh[r]? = some e) (he : e.1 = ci) (hj : j < e.2.1) (hr : isR ci j = true) (hq : e.2.2.getD j none = some r') (k : Ok Sh' d M n L (.ref r' :: st) Sh μ x) : Ok Sh' d M pc L (.ref r :: st) Sh μ x :=
  ok_getV n hd hp ho fl hS he hj (fun σ => by subst he; simp [fld, hr, av]; rw [← List.getD_eq_getElem?_getD, hq]; rfl) k
/-- one instruction that writes the world -/
theorem Ok.put {n : Nat} {st' : List Value} {Sh2 : List SE} {ν : Mem} (hlen : csz Sh2 = csz Sh) (hs : ssz Sh2 = ssz Sh)
    (g : ∀ {p : Program} {l : Launch} {e : Env} {R : Room} {s : State} {m : MethodId} {args : Array Value} {below : List Frame} {meth : Method} {c : Code} {H : Heap} {locs : List Loc} {cells slots : Nat} {Q : State → Prop} {D : va_G} {σ : Nat → Nat} {A : Nat → Prop} {ls : Array Slot},
    Ctx M p s m args meth c D σ → va_P D vwCl (wd σ D Sh μ) H → va_D A (wd σ D Sh μ) → va_S A s.heap H locs → lvR σ ls M.2.2.1 L →
    (∀ (H1 : Heap) (locs1 : List Loc), va_P D vwCl (wd σ D Sh2 ν) H1 → va_D A (wd σ D Sh2 ν) → va_S A s.heap H1 locs1 → W p l e R s m args below meth c H1 locs1 cells slots Q (F0 m n ls (st'.map (av σ)))) → W p l e R s m args below meth c H locs cells slots Q (F0 m pc ls (st.map (av σ))))
    (k : Ok Sh' d M n L st' Sh2 ν x) : Ok Sh' d M pc L st Sh μ x := by
  intro v μ' hx p l e R s m args below meth c H locs cells slots Q D σ A mc ms ls C Z hA hR hP hD hS hL h1 h2 hQ
  refine g C hP hD hS hL (fun H1 locs1 hP1 hD1 hS1 => k v μ' hx p l e R s m args below meth c H1 locs1 cells slots Q D σ A mc ms ls C Z hA hR hP1 hD1 hS1 hL (by omega) (by omega) ?_)
  intro H' locs' ls' σ' pcr ha
  exact hQ H' locs' ls' σ' pcr ⟨fun j hj => ha.1 j (by rw [hlen]; exact hj), fun q => ha.2 (q.trans hlen.symm)⟩
theorem ok_putI (n : Nat) {ty : FieldType} (hd : decode M.1 pc = .ok (.putfield idx, 3)) (hp : pc + 3 = n) (ho : M.2.1.cls = own) (fl : FL own idx ci j) (hS : Sh[r]? = some e) (he : e.1 = ci) (hj : j < e.2.1) (hr : isR ci j = false) (hfin : ((vwC ci).2.1 j).2.2.2 = false) (hty : parseFieldDescriptor ((vwC ci).2.1 j).2.2.1 = some ty) (hn : narrow ty (.int a) = .int a) (hf : fits ty (.int a) = true) (k : Ok Sh' d M n L st Sh (mset μ r j a) x) : Ok Sh' d M pc L (.int a :: .ref r :: st) Sh μ x := by
  subst hp; subst ho; subst he
  obtain ⟨f1, f2, f3⟩ := fl
  obtain ⟨k1, k2, ⟨ty0, k3⟩, k4, k5⟩ := kc e.1 f1
  refine Ok.put rfl rfl (fun {_ _ _ _ _ _ _ _ _ _ _ _ _ _ _ _ σ _ _} C hP hD hS0 _ kk => ?_) k
  refine va_put (ty := ty) C.1 C.2.1 C.2.2.2.2.1 k2 ty0 k3 k4 C.2.2.2.1 C.2.2.2.2.2.1 hP hD hS0 r (fs := (List.range e.2.1).map (fld σ μ r e)) ((wd_at hS).trans (by rw [ent_obj (by omega)])) k1 j f2 (C.2.2.2.2.1 _ f3) (fun q hq => by rw [k5 j f2] at hq; exact hq) hfin hty hn hf (by simpa using hj) hd (fun H1 locs1 g1 g2 g3 => ?_)
  rw [show av σ (Value.int a) = Value.int a from rfl, wd_setI hS (by omega) hr hj] at g1 g2
  exact kk H1 locs1 g1 g2 g3
theorem ok_putZ (n : Nat) (hd : decode M.1 pc = .ok (.putfield idx, 3)) (hp : pc + 3 = n) (ho : M.2.1.cls = own) (fl : FL own idx ci j) (hS : Sh[r]? = some e) (he : e.1 = ci) (hj : j < e.2.1) (hr : isR ci j = false) (hfin : ((vwC ci).2.1 j).2.2.2 = false) (hty : parseFieldDescriptor ((vwC ci).2.1 j).2.2.1 = some .boolean) (k : Ok Sh' d M n L st Sh (mset μ r j a) x) : Ok Sh' d M pc L (.int a :: .ref r :: st) Sh μ (chk (isB a) x) :=
  ok_chk fun h => ok_putI n hd hp ho fl hS he hj hr hfin hty (isB_n h) (isB_f h) k
theorem ok_putZc (n : Nat) (hd : decode M.1 pc = .ok (.putfield idx, 3)) (hp : pc + 3 = n) (ho : M.2.1.cls = own) (fl : FL own idx ci j) (hS : Sh[r]? = some e) (he : e.1 = ci) (hj : j < e.2.1) (hr : isR ci j = false) (hfin : ((vwC ci).2.1 j).2.2.2 = false) (hty : parseFieldDescriptor ((vwC ci).2.1 j).2.2.1 = some .boolean) (h : isB a = true) (k : Ok Sh' d M n L st Sh (mset μ r j a) x) : Ok Sh' d M pc L (.int a :: .ref r :: st) Sh μ x :=
  ok_putI n hd hp ho fl hS he hj hr hfin hty (isB_n h) (isB_f h) k
/-- final fields in a constructor -/
theorem ok_putF (n : Nat) {ty : FieldType} (hd : decode M.1 pc = .ok (.putfield idx, 3)) (hp : pc + 3 = n) (ho : M.2.1.cls = own) (hown : own = (vwC ci).1) (hinit : M.2.1.name = "<init>") (fl : FL own idx ci j) (hS : Sh[r]? = some e) (he : e.1 = ci) (hj : j < e.2.1) (hr : isR ci j = false) (hfin : ((vwC ci).2.1 j).2.2.2 = true) (hty : parseFieldDescriptor ((vwC ci).2.1 j).2.2.1 = some ty) (hn : narrow ty (.int a) = .int a) (hf : fits ty (.int a) = true) (k : Ok Sh' d M n L st Sh (mset μ r j a) x) : Ok Sh' d M pc L (.int a :: .ref r :: st) Sh μ x := by
  subst hp; subst ho; subst he
  obtain ⟨f1, f2, f3⟩ := fl
  obtain ⟨k1, k2, ⟨ty0, k3⟩, k4, k5⟩ := kc e.1 f1
  refine Ok.put rfl rfl (fun {_ _ _ _ _ _ _ _ _ _ _ _ _ _ _ _ σ _ _} C hP hD hS0 _ kk => ?_) k
  refine va_putF (ty := ty) C.1 C.2.1 C.2.2.2.2.1 k2 ty0 k3 k4 C.2.2.2.1 C.2.2.2.2.2.1 hP hD hS0 r (fs := (List.range e.2.1).map (fld σ μ r e)) ((wd_at hS).trans (by rw [ent_obj (by omega)])) k1 j f2 (C.2.2.2.2.1 _ f3) (fun q hq => by rw [k5 j f2] at hq; exact hq) hfin (C.2.2.2.2.2.2.1.trans hinit) ((k5 j f2).trans hown.symm) hty hn hf (by simpa using hj) hd (fun H1 locs1 g1 g2 g3 => ?_)
  rw [show av σ (Value.int a) = Value.int a from rfl, wd_setI hS (by omega) hr hj] at g1 g2
  exact kk H1 locs1 g1 g2 g3
theorem ssz_set : ∀ (Sh : List SE) (k : Nat) (e e' : SE), Sh[k]? = some e → e'.2.1 = e.2.1 → ssz (Sh.set k e') = ssz Sh
  | [], k, e, e', h, hn => by simp at h
  | a :: Sh, 0, e, e', h, hn => by
    have : a = e := by simpa using h
    subst this
    simp [ssz, hn]
  | a :: Sh, k + 1, e, e', h, hn => by
    simp only [List.set_cons_succ, ssz]
    rw [ssz_set Sh k e e' (by simpa using h) hn]
/-- a final field that is a reference, in a constructor -/
theorem ok_putFR (n : Nat) {ty : FieldType} {r' N : Nat} {rs : List (Option Nat)} (hd : decode M.1 pc = .ok (.putfield idx, 3)) (hp : pc + 3 = n) (ho : M.2.1.cls = own) (hown : own = (vwC ci).1) (hinit : M.2.1.name = "<init>") (fl : FL own idx ci j) (hS : Sh[r]? = some (ci, N, rs)) (hj : j < N) (hjl : j < rs.length) (hr : isR ci j = true) (hfin : ((vwC ci).2.1 j).2.2.2 = true) (hty : parseFieldDescriptor ((vwC ci).2.1 j).2.2.1 = some ty) (hn : ∀ q, narrow ty (.ref q) = .ref q) (hf : ∀ q, fits ty (.ref q) = true) (k : Ok Sh' d M n L st (Sh.set r (ci, N, rs.set j (some r'))) μ x) : Ok Sh' d M pc L (.ref r' :: .ref r :: st) Sh μ x := by
  subst hp; subst ho
  obtain ⟨f1, f2, f3⟩ := fl
  obtain ⟨k1, k2, ⟨ty0, k3⟩, k4, k5⟩ := kc ci f1
  refine Ok.put (Sh2 := Sh.set r (ci, N, rs.set j (some r'))) (by simp [csz]) (ssz_set _ _ _ _ hS rfl) (fun {_ _ _ _ _ _ _ _ _ _ _ _ _ _ _ _ σ _ _} C hP hD hS0 _ kk => ?_) k
  refine va_putF (ty := ty) C.1 C.2.1 C.2.2.2.2.1 k2 ty0 k3 k4 C.2.2.2.1 C.2.2.2.2.2.1 hP hD hS0 r (fs := (List.range N).map (fld σ μ r (ci, N, rs))) ((wd_at hS).trans (by rw [ent_obj (e := (ci, N, rs)) (show ci < 100 by omega)])) k1 j f2 (C.2.2.2.2.1 _ f3) (fun q hq => by rw [k5 j f2] at hq; exact hq) hfin (C.2.2.2.2.2.2.1.trans hinit) ((k5 j f2).trans hown.symm) hty (hn _) (hf _) (by simpa using hj) hd (fun H1 locs1 g1 g2 g3 => ?_)
  rw [show av σ (Value.ref r') = Value.ref (σ r') from rfl, wd_setR hS (by omega) hr hj hjl] at g1 g2
  exact kk H1 locs1 g1 g2 g3
/-! arrays -/
def inb (i : Int32) (n : Nat) : Bool := decide (0 ≤ i) && decide (i.toNatClampNeg < n)
theorem inb_in {i : Int32} {n : Nat} (h : inb i n = true) : vp_in i n := by
  simp only [inb, Bool.and_eq_true, decide_eq_true_eq] at h
  rintro (q | q)
  · exact absurd h.1 (Int32.not_le.mpr q)
  · omega
variable {N : Nat} {rs : List (Option Nat)}
theorem ok_ialdc (n k0 : Nat) (hd : decode M.1 pc = .ok (.iaload, 1)) (hp : pc + 1 = n) (hS : Sh[r]? = some (100, N, rs)) (hi : i.toNatClampNeg = k0) (hin : inb i N = true) (k : Ok Sh' d M n L (.int (μ r k0) :: st) Sh μ x) : Ok Sh' d M pc L (.int i :: .ref r :: st) Sh μ x := by
  subst hp; subst hi
  refine Ok.go (fun {_ _ _ _ _ _ _ _ _ _ _ _ _ _ _ _ σ _} C hP _ kk => ?_) k
  exact va_iald C.1 C.2.1 C.2.2.2.2.2.1 hP r 0 (wd_at hS) rfl (inb_in hin) hd kk
theorem ok_iald (n : Nat) (hd : decode M.1 pc = .ok (.iaload, 1)) (hp : pc + 1 = n) (hS : Sh[r]? = some (100, N, rs)) (k : Ok Sh' d M n L (.int (μ r i.toNatClampNeg) :: st) Sh μ x) : Ok Sh' d M pc L (.int i :: .ref r :: st) Sh μ (chk (inb i N) x) :=
  ok_chk fun h => ok_ialdc n _ hd hp hS rfl h k
theorem ok_iastc (n k0 : Nat) (hd : decode M.1 pc = .ok (.iastore, 1)) (hp : pc + 1 = n) (hS : Sh[r]? = some (100, N, rs)) (hi : i.toNatClampNeg = k0) (hin : inb i N = true) (k : Ok Sh' d M n L st Sh (mset μ r k0 a) x) : Ok Sh' d M pc L (.int a :: .int i :: .ref r :: st) Sh μ x := by
  subst hp; subst hi
  refine Ok.put rfl rfl (fun {_ _ _ _ _ _ _ _ _ _ _ _ _ _ _ _ σ _ _} C hP hD hS0 _ kk => ?_) k
  refine va_iast C.1 C.2.1 C.2.2.2.2.2.1 hP hD hS0 r 0 (wd_at hS) rfl (inb_in hin) hd (fun H1 locs1 g1 g2 g3 => ?_)
  rw [wd_setA hS] at g1 g2
  exact kk H1 locs1 g1 g2 g3
theorem ok_iast (n : Nat) (hd : decode M.1 pc = .ok (.iastore, 1)) (hp : pc + 1 = n) (hS : Sh[r]? = some (100, N, rs)) (k : Ok Sh' d M n L st Sh (mset μ r i.toNatClampNeg a) x) : Ok Sh' d M pc L (.int a :: .int i :: .ref r :: st) Sh μ (chk (inb i N) x) :=
  ok_chk fun h => ok_iastc n _ hd hp hS rfl h k
theorem ok_alen (n : Nat) (hd : decode M.1 pc = .ok (.arraylength, 1)) (hp : pc + 1 = n) (hS : Sh[r]? = some (100, N, rs)) (k : Ok Sh' d M n L (.int (Int32.ofNat N) :: st) Sh μ x) : Ok Sh' d M pc L (.ref r :: st) Sh μ x := by
  subst hp
  refine Ok.go (fun {_ _ _ _ _ _ _ _ _ _ _ _ _ _ _ _ σ _} C hP _ kk => ?_) k
  exact va_alen C.1 C.2.1 C.2.2.2.2.2.1 hP r 0 (wd_at hS) rfl rfl hd kk
theorem ok_alenR (n : Nat) (hd : decode M.1 pc = .ok (.arraylength, 1)) (hp : pc + 1 = n) (hS : Sh[r]? = some (101, N, rs)) (k : Ok Sh' d M n L (.int (Int32.ofNat N) :: st) Sh μ x) : Ok Sh' d M pc L (.ref r :: st) Sh μ x := by
  subst hp
  refine Ok.go (fun {_ _ _ _ _ _ _ _ _ _ _ _ _ _ _ _ σ _} C hP _ kk => ?_) k
  exact va_alen C.1 C.2.1 C.2.2.2.2.2.1 hP r 1 (wd_at hS) rfl rfl hd kk
theorem ok_aaldc (n r' : Nat) (hd : decode M.1 pc = .ok (.aaload, 1)) (hp : pc + 1 = n) (hS : Sh[r]? = some (101, N, rs)) (hin : inb i N = true) (hr : rs.getD i.toNatClampNeg none = some r') (k : Ok Sh' d M n L (.ref r' :: st) Sh μ x) : Ok Sh' d M pc L (.int i :: .ref r :: st) Sh μ x := by
  subst hp
  refine Ok.go (fun {_ _ _ _ _ _ _ _ _ _ _ _ _ _ _ _ σ _} C hP _ kk => ?_) k
  refine va_aldq C.1 C.2.1 C.2.2.2.2.2.1 hP r 1 (wd_at hS) rfl (inb_in hin) hd ?_
  rw [show va_rf ((rs.getD i.toNatClampNeg none).map σ) = av σ (.ref r') by rw [hr]; rfl]
  exact kk
/-! Math, System.arraycopy -/
theorem st8 {σ : Nat → Nat} {st : List Value} (h : (st.map Value.category).sum ≤ 8) : ((st.map (av σ)).map fun v => v.category).sum ≤ 8 := by
  have : (st.map (av σ)).map (fun v => v.category) = st.map Value.category := by
    rw [List.map_map]
    exact List.map_congr_left fun v _ => av_cat σ v
  rw [this]; exact h
theorem Ok.goD {n : Nat} {st' : List Value} (g : ∀ {p : Program} {l : Launch} {e : Env} {R : Room} {s : State} {m : MethodId} {args : Array Value} {below : List Frame} {meth : Method} {c : Code} {H : Heap} {locs : List Loc} {cells slots : Nat} {Q : State → Prop} {D : va_G} {σ : Nat → Nat} {ls : Array Slot},
    Ctx M p s m args meth c D σ → lvR σ ls M.2.2.1 L → 1 ≤ R.frames → 40 ≤ R.locals → cells ≤ R.cells → slots ≤ R.slots → W p l e R s m args below meth c H locs cells slots Q (F0 m n ls (st'.map (av σ))) → W p l e R s m args below meth c H locs cells slots Q (F0 m pc ls (st.map (av σ))))
    (hz : csz Sh ≤ csz Sh' ∧ ssz Sh ≤ ssz Sh') (k : Ok Sh' (d + 1) M n L st' Sh μ x) : Ok Sh' (d + 1) M pc L st Sh μ x := by
  intro v μ' hx p l e R s m args below meth c H locs cells slots Q D σ A mc ms ls C Z hA hR hP hD hS hL h1 h2 hQ
  obtain ⟨r1, r2, r3, r4⟩ := id hR
  exact g C hL (by omega) (by omega) (by omega) (by omega) (k v μ' hx p l e R s m args below meth c H locs cells slots Q D σ A mc ms ls C Z hA hR hP hD hS hL h1 h2 hQ)
theorem ok_max (n : Nat) (hz : csz Sh ≤ csz Sh' ∧ ssz Sh ≤ ssz Sh') (hd : decode M.1 pc = .ok (.invokestatic idx, 3)) (hp : pc + 3 = n) (ho : M.2.1.cls = own) (hl : Cond.methodLink own idx Lib.Math.max.name ∈ TB) (hst : (st.map Value.category).sum ≤ 8) (k : Ok Sh' (d + 1) M n L (.int (if a < b then b else a) :: st) Sh μ x) : Ok Sh' (d + 1) M pc L (.int b :: .int a :: st) Sh μ x := by
  subst hp; subst ho
  refine Ok.goD (fun {_ _ _ _ _ _ _ _ _ _ _ _ _ _ _ _ σ _} C hL r1 r2 r3 r4 kk => ?_) hz k
  have hw := C.2.2.2.2.1
  exact va_mmax C.1 C.2.1 (C.2.2.1.trans hL.1.symm) C.2.2.2.1 (hw _ hl) (hw _ ma_st_max) (hw _ wi_java_lang_Math) (hw _ ma_code_max) r1 (by have := st8 (σ := σ) hst; omega) r3 r4 hd kk
theorem ok_min (n : Nat) (hz : csz Sh ≤ csz Sh' ∧ ssz Sh ≤ ssz Sh') (hd : decode M.1 pc = .ok (.invokestatic idx, 3)) (hp : pc + 3 = n) (ho : M.2.1.cls = own) (hl : Cond.methodLink own idx Lib.Math.min.name ∈ TB) (hst : (st.map Value.category).sum ≤ 8) (k : Ok Sh' (d + 1) M n L (.int (if b < a then b else a) :: st) Sh μ x) : Ok Sh' (d + 1) M pc L (.int b :: .int a :: st) Sh μ x := by
  subst hp; subst ho
  refine Ok.goD (fun {_ _ _ _ _ _ _ _ _ _ _ _ _ _ _ _ σ _} C hL r1 r2 r3 r4 kk => ?_) hz k
  have hw := C.2.2.2.2.1
  exact va_mmin C.1 C.2.1 (C.2.2.1.trans hL.1.symm) C.2.2.2.1 (hw _ hl) (hw _ ma_st_min) (hw _ wi_java_lang_Math) (hw _ ma_code_min) r1 (by have := st8 (σ := σ) hst; omega) r3 r4 hd kk
def mcpy (μ : Mem) (src dst sp dp n : Nat) : Mem := fun a j => if a = dst then va_cpy (μ src) (μ dst) sp dp n j else μ a j
theorem wd_setC {σ : Nat → Nat} {D : va_G} {src dst sp dp m : Nat} (h : Sh[dst]? = some (100, N, rs)) : (wd σ D Sh μ).set dst (σ dst, .inl (D.1 100, N, .inl (va_cpy (μ src) (μ dst) sp dp m))) = wd σ D Sh (mcpy μ src dst sp dp m) := by
  refine wd_ext fun i => ?_
  rw [List.getElem?_set]
  by_cases hi : dst = i
  · subst hi
    rw [if_pos rfl, if_pos (by rw [wd_len]; exact (List.getElem?_eq_some_iff.mp h).1), h]
    have : mcpy μ src dst sp dp m dst = va_cpy (μ src) (μ dst) sp dp m := by
      funext j; simp [mcpy]
    simp only [Option.map_some, ent_arr, this]
  · rw [if_neg hi, wd_get]
    cases Sh[i]? with
    | none => rfl
    | some e =>
      simp only [Option.map_some]
      rw [ent_congr (ν := mcpy μ src dst sp dp m)]
      funext j
      have : ¬ i = dst := fun q => hi q.symm
      simp [mcpy, this]
def cpyOk (sp dp n : Int32) (n0 n1 : Nat) : Bool := decide (0 ≤ sp) && decide (0 ≤ dp) && decide (0 ≤ n) && decide (sp.toNatClampNeg + n.toNatClampNeg ≤ n0) && decide (dp.toNatClampNeg + n.toNatClampNeg ≤ n1)
theorem ok_copy (n : Nat) {src dst N0 : Nat} {rs0 : List (Option Nat)} {sp dp z : Int32} (hd : decode M.1 pc = .ok (.invokestatic idx, 3)) (hp : pc + 3 = n) (ho : M.2.1.cls = own) (hl : Cond.methodLink own idx arraycopyName ∈ TB) (hst : (st.map Value.category).sum ≤ 8) (hS0 : Sh[src]? = some (100, N0, rs0)) (hS1 : Sh[dst]? = some (100, N, rs)) (k : Ok Sh' (d + 1) M n L st Sh (mcpy μ src dst sp.toNatClampNeg dp.toNatClampNeg z.toNatClampNeg) x) : Ok Sh' (d + 1) M pc L (.int z :: .int dp :: .ref dst :: .int sp :: .ref src :: st) Sh μ (chk (cpyOk sp dp z N0 N) x) := by
  subst hp; subst ho
  refine ok_chk fun hc => ?_
  simp only [cpyOk, Bool.and_eq_true, decide_eq_true_eq] at hc
  obtain ⟨⟨⟨⟨c1, c2⟩, c3⟩, c4⟩, c5⟩ := hc
  intro v μ' hx p l e R s m args below meth c H locs cells slots Q D σ A mc ms ls C Z hA hR hP hD hS hL h1 h2 hQ
  obtain ⟨r1, r2, r3, r4⟩ := id hR
  have hw := C.2.2.2.2.1
  have h8 := st8 (σ := σ) hst
  have hnw : nativeFrameWords "java/lang/System" "arraycopy" 5 + 11 ≤ 32 := by decide
  refine va_copyi C.1 C.2.1 (C.2.2.1.trans hL.1.symm) C.2.2.2.1 (hw _ hl) (hw _ nat_copy) (hw _ st_copy) (hw _ wi_java_lang_System) C.2.2.2.2.2.1 hP hD hS src dst 0 0 (wd_at hS0) (wd_at hS1) rfl rfl rfl (Int32.not_lt.mpr c1) (Int32.not_lt.mpr c2) (Int32.not_lt.mpr c3) c4 c5 (fun _ _ => rfl) (by omega) (by omega) hd (fun H1 locs1 g1 g2 g3 => ?_)
  rw [wd_setC hS1] at g1 g2
  exact k v μ' hx p l e R s m args below meth c H1 locs1 cells slots Q D σ A mc ms ls C Z hA hR g1 g2 g3 hL h1 h2 hQ
end OK3
end
section
/-! contracts and calls -/
def cw (M : MD) : List Cond := Cond.code M.2.1 M.1 M.2.2.1 M.2.2.2 :: TB
theorem cw_good {M : MD} (h : Cond.code M.2.1 M.1 M.2.2.1 M.2.2.2 ∈ TB) : GoodIn TB (cw M) := by
  intro w hw
  rcases List.mem_cons.mp hw with rfl | hw
  · exact tb_good _ h
  · exact tb_good _ hw
def PreU (D : va_G) (σ : Nat → Nat) (Sh : List SE) (μ : Mem) (sz : Nat) (U : State) : Prop := U.heap.size = sz ∧ va_P D vwCl (wd σ D Sh μ) U.heap ∧ va_K D vwCl (tys0 D) U ∧ va_D (fun _ => True) (wd σ D Sh μ) ∧ Zs σ (va_A (wd σ D Sh μ) sz) U U.heap ∧ Vk σ U ∧ Nw U
def rvO (M : MD) (σ : Nat → Nat) (v : Int32) : Option Value := match M.2.2.2 with
  | none => none
  | some (.object _) => some (if v = -1 then .null else .ref (σ v.toNatClampNeg))
  | some _ => some (.int v)
def psh (M : MD) (v : Int32) : List Value := match M.2.2.2 with
  | none => []
  | some (.object _) => [if v = -1 then .null else .ref v.toNatClampNeg]
  | some _ => [.int v]
theorem rvO_psh (M : MD) (σ : Nat → Nat) (v : Int32) : (rvO M σ v).toList = (psh M v).map (av σ) := by
  unfold rvO psh
  split
  · rfl
  · split <;> rfl
  · rfl
def PostU (M : MD) (D : va_G) (σ : Nat → Nat) (Sh Sh' : List SE) (μ μ' : Mem) (v : Int32) (sz : Nat) : Array Value → State → Outcome → State → Prop := fun _ st oc t => ∃ σ' : Nat → Nat, agr (csz Sh) (csz Sh') σ σ' ∧ oc = .returned (rvO M σ' v) ∧ va_P D vwCl (wd σ' D Sh' μ') t.heap ∧ va_D (va_A (wd σ D Sh μ) sz) (wd σ' D Sh' μ') ∧ va_F (va_A (wd σ D Sh μ) sz) st t
def CM (d : Nat) (M : MD) (Sh' Sh : List SE) (As : List Value) (μ : Mem) (x : Ans) : Prop := ∀ (v : Int32) (μ' : Mem), x = some (v, μ') → csz Sh ≤ csz Sh' ∧ ssz Sh ≤ ssz Sh' ∧
  ∀ (l : Launch) (D : va_G) (σ : Nat → Nat) (sz : Nat), Met l M.2.1 (cw M) (RM d (csz Sh' - csz Sh) (ssz Sh' - ssz Sh)) (va_Pc (As.map (av σ)) (PreU D σ Sh μ sz)) (PostU M D σ Sh Sh' μ μ' v sz) (csz Sh' - csz Sh) (ssz Sh' - ssz Sh) (va_A (wd σ D Sh μ) sz)
theorem PreU.blind {D : va_G} {σ : Nat → Nat} {Sh : List SE} {μ : Mem} {sz : Nat} {av : List Value} : FrameBlind (va_Pc av (PreU D σ Sh μ sz)) := by
  intro a U g mk h
  obtain ⟨h0, h1, h2, h3, h4, h5, h6, h7⟩ := h
  refine ⟨h0, h1, h2, va_K.moved (u := U) (U := U.calling g mk a) (Vm.Alike.refl U.vm) h3, h4, ?_, Vk.same rfl h6, Nw.same rfl h7⟩
  exact Zs.moved (u := U) (U := U.calling g mk a) (Vm.Alike.refl U.vm) h5
theorem lv_args_in (σ : Nat → Nat) : ∀ (As : List Value) (k : Nat), (∀ v ∈ As, v.category = 1) → ∀ (i : Nat) (v : Value), As[i]? = some v → (k + i, av σ v) ∈ lv_args k (As.map (av σ))
  | [], _, _, i, v, h => by simp at h
  | a :: As, k, hc, 0, v, h => by
    have : a = v := by simpa using h
    subst this
    exact List.mem_cons_self
  | a :: As, k, hc, i + 1, v, h => by
    have h1 : (av σ a).category = 1 := (av_cat σ a).trans (hc a List.mem_cons_self)
    have := lv_args_in σ As (k + 1) (fun v hv => hc v (List.mem_cons_of_mem _ hv)) i v (by simpa using h)
    refine List.mem_cons_of_mem _ ?_
    rw [h1, if_neg (by decide), show k + (i + 1) = k + 1 + i by omega]
    exact this
theorem lg_sl_len (σ : Nat → Nat) : ∀ (As : List Value), (∀ v ∈ As, v.category = 1) → (lg_sl (As.map (av σ))).length = As.length
  | [], _ => rfl
  | a :: As, hc => by
    have h1 : (av σ a).category = 1 := (av_cat σ a).trans (hc a List.mem_cons_self)
    have := lg_sl_len σ As (fun v hv => hc v (List.mem_cons_of_mem _ hv))
    have e : lg_sl ((a :: As).map (av σ)) = Slot.val (av σ a) :: lg_sl (As.map (av σ)) := by
      show List.flatMap _ (av σ a :: As.map (av σ)) = _
      rw [List.flatMap_cons, h1, if_neg (by decide)]
      rfl
    rw [e, List.length_cons, this, List.length_cons]
theorem CM.ofOk {d : Nat} {M : MD} {Sh' Sh : List SE} {As : List Value} {μ : Mem} {x : Ans} {n : Nat} (km : KM M n) (hz : csz Sh ≤ csz Sh' ∧ ssz Sh ≤ ssz Sh') (hc : ∀ v ∈ As, v.category = 1) (hlen : As.length ≤ M.2.2.1) (h : Ok Sh' d M 0 (As.map some ++ List.replicate (M.2.2.1 - As.length) none) [] Sh μ x) : CM d M Sh' Sh As μ x := by
  intro v μ' hx
  refine ⟨hz.1, hz.2, fun l D σ sz => ?_⟩
  refine Met.ofW (cc := M.1) (maxL := M.2.2.1) (ret := M.2.2.2) km.2.2.2 rfl ?_
  intro p e s m args below meth c s₁ B hml hP
  obtain ⟨rfl, hsz, hP, hK, hD0, hZ, hV, hN⟩ := hP
  have hexec := B.exec
  have hb := B.bytes
  have hr := B.returns
  have hts := atoms_spec (ws := cw M) B.pre
  have hown : s.vm.findClass M.2.1.cls = some m.cls := findClass_of_methodNamed B.named
  have hlocks := B.notSynchronized
  have hin : meth.name = M.2.1.name := (name_of_methodNamed B.named B.method).1
  subst hsz
  have hD := hD0.self (sz := s.heap.size)
  rw [lg_entry_eq]
  have hl := lv_entry (As.map (av σ)) (n := M.2.2.1) (by rw [lg_sl_len σ As hc]; exact hlen)
  have hL : lvR σ ((lg_sl (As.map (av σ)) ++ List.replicate (M.2.2.1 - (lg_sl (As.map (av σ))).length) Slot.unset).toArray) M.2.2.1 (As.map some ++ List.replicate (M.2.2.1 - As.length) none) := by
    refine ⟨hl.1, hl.2.1, fun i v hi => ?_⟩
    by_cases q : i < As.length
    · rw [List.getElem?_append_left (by simpa using q), List.getElem?_map] at hi
      have hv : As[i]? = some v := by
        cases hq : As[i]? with
        | none => rw [hq] at hi; cases hi
        | some w => rw [hq] at hi; cases hi; rfl
      have := hl.2.2 _ (lv_args_in σ As 0 hc i v hv)
      simpa using this
    · rw [List.getElem?_append_right (by simpa using q), List.getElem?_replicate] at hi
      split at hi <;> simp at hi
  refine h v μ' hx p l e _ s m _ below meth c s.heap [] 0 0 _ D σ (va_A (wd σ D Sh μ) s.heap.size) (csz Sh' - csz Sh) (ssz Sh' - ssz Sh) _ ⟨hexec, hb, hml, hown, fun w hw => hts w (List.mem_cons_of_mem _ hw), hK, hin, hV, hN⟩ hZ (fun q hq => Or.inr hq) ⟨Nat.le_refl _, Nat.le_refl _, Nat.le_refl _, Nat.le_refl _⟩ hP hD va_S.rf hL (by omega) (by omega) ?_
  intro H' locs' ls' σ' pcr ha hP' hD' hS'
  refine ⟨fun hr0 hd => ?_, fun ty hr0 hty hn hd => ?_, fun nm hr0 hd => ?_⟩
  · exact W.vret hexec hb (hr.trans hr0) (fun t ht hW => ⟨σ', ha, by simp [rvO, hr0], by rw [ht]; exact hP', hD', hS'.F ht⟩) hS'.2.2 hd hlocks
  · refine W.zret hexec hb (hr.trans hr0) hn (fun t ht hW => ⟨σ', ha, ?_, by rw [ht]; exact hP', hD', hS'.F ht⟩) hS'.2.2 hd hlocks
    unfold rvO
    rw [hr0]
    cases ty <;> first | rfl | exact absurd rfl (hty _)
  · refine W.aret hexec hb (hr.trans hr0) (Or.inl ⟨_, rfl⟩) ?_ (fun t ht hW => ⟨σ', ha, by simp [rvO, hr0], by rw [ht]; exact hP', hD', hS'.F ht⟩) hS'.2.2 hd hlocks
    split
    · exact Or.inl rfl
    · exact Or.inr ⟨_, rfl⟩
def bd {β : Type} (x : Ans) (k : Int32 → Mem → Option β) : Option β := match x with
  | none => none
  | some q => k q.1 q.2
def okR (n : Nat) (L : List (Option Value)) (st : List Value) : Prop := (∀ (i k : Nat), L[i]? = some (some (.ref k)) → k < n ∨ 1000 ≤ k) ∧ ∀ k, Value.ref k ∈ st → k < n ∨ 1000 ≤ k
theorem okR.st {n n' : Nat} {L : List (Option Value)} {st : List Value} {σ σ' : Nat → Nat} (h : okR n L st) (ha : agr n n' σ σ') : st.map (av σ') = st.map (av σ) := by
  refine List.map_congr_left fun v hv => ?_
  cases v <;> try rfl
  rename_i k
  exact congrArg Value.ref (ha.1 k (h.2 k hv))
section CALL
variable {Sh' Sh Sh1 : List SE} {d : Nat} {M M' : MD} {pc : Nat} {L : List (Option Value)} {st st0 : List Value} {μ : Mem} {y : Ans} {f : Int32 → Mem → Ans} {own : String} {idx n np : Nat}
theorem Ok.call {As : List Value} (hp : pc + 3 = n) (hC : CM d M' Sh1 Sh As μ y) (hgr : csz Sh1 ≤ csz Sh' ∧ ssz Sh1 ≤ ssz Sh') (hn : csz Sh1 = csz Sh ∨ okR (csz Sh) L st)
    (g : ∀ {p : Program} {l : Launch} {e : Env} {R : Room} {s : State} {m : MethodId} {args : Array Value} {below : List Frame} {meth : Method} {c : Code} {H : Heap} {locs : List Loc} {cells slots : Nat} {D : va_G} {σ : Nat → Nat} {A : Nat → Prop} {ls : Array Slot} {mc ms : Nat} {Pc : Array Value → State → Prop} {Qc : Array Value → State → Outcome → State → Prop} {free : Addr → Prop},
      Ctx M p s m args meth c D σ → Zs σ A s s.heap → va_P D vwCl (wd σ D Sh μ) H → va_S A s.heap H locs → lvR σ ls M.2.2.1 L → Met l M'.2.1 (cw M') (RM d mc ms) Pc Qc mc ms free → FrameBlind Pc → d + 1 ≤ R.frames → 40 * (d + 1) ≤ R.locals → cells + mc ≤ R.cells ∧ slots + ms ≤ R.slots → (∀ U : State, U.heap = H → s.WarmedH U.vm → Pc (As.map (av σ)).toArray U) →
      va_Run p l e R s m args below meth c H locs cells slots mc ms (F0 m pc ls (st0.map (av σ))) (st.map (av σ)) (Qc (As.map (av σ)).toArray) free)
    (k : ∀ v μ1, y = some (v, μ1) → Ok Sh' (d + 1) M n L (psh M' v ++ st) Sh1 μ1 (f v μ1)) : Ok Sh' (d + 1) M pc L st0 Sh μ (bd y f) := by
  subst hp
  intro v μ' hx p l e R s m args below meth c H locs cells slots Q D σ A mc ms ls C Z hA hR hP hD hS hL h1 h2 hQ
  obtain ⟨r1, r2, r3, r4⟩ := id hR
  cases hy : y with
  | none => rw [hy] at hx; cases hx
  | some q =>
  obtain ⟨v1, μ1⟩ := q
  rw [hy] at hx
  obtain ⟨z1, z2, hM⟩ := hC v1 μ1 hy
  have hM := hM l D σ H.size
  have hpre : ∀ U : State, U.heap = H → s.WarmedH U.vm → va_Pc (As.map (av σ)) (PreU D σ Sh μ H.size) (As.map (av σ)).toArray U := by
    intro U hU hW
    refine ⟨rfl, by rw [hU], by rw [hU]; exact hP, va_K.moved hW.alike C.2.2.2.2.2.1, hD.weaken (fun _ _ _ _ => trivial), ?_, C.2.2.2.2.2.2.2.1.warm hW, C.2.2.2.2.2.2.2.2.warm hW⟩
    rw [hU]
    refine ((Z.kept hS.2.1).moved hW.alike).narrow (fun q hq => ?_)
    rcases hq with ⟨k, e, hk⟩ | hq
    · exact hD.2 k _ hk
    · exact hA q (Nat.le_trans hS.1 hq)
  have hAA : ∀ q, va_A (wd σ D Sh μ) H.size q → A q := by
    intro q hq
    rcases hq with ⟨k, e, hk⟩ | hq
    · exact hD.2 k _ hk
    · exact hA q (Nat.le_trans hS.1 hq)
  have hrun := g (ls := ls) (locs := locs) (cells := cells) (slots := slots) (e := e) (p := p) (l := l) (R := R) (below := below) (A := A) C Z hP hS hL hM PreU.blind (by omega) (by omega) (by omega) hpre
  intro T hT X
  obtain ⟨v2, st₀, t, T', LL, e0, X', hLL, e1, e2, ⟨σ1, ha, ho, hP1, hD1, hF1, hF2⟩, hst⟩ := hrun T hT X
  cases ho
  rw [e0] at hF1 hF2
  have hσ : ∀ (st : List Value), (csz Sh1 = csz Sh ∨ okR (csz Sh) L st) → st.map (av σ) = st.map (av σ1) := by
    intro st hh
    rcases hh with q | q
    · rw [ha.2 q]
    · exact (q.st ha).symm
  have hL1 : lvR σ1 ls M.2.2.1 L := by
    rcases hn with q | q
    · rw [ha.2 q]; exact hL
    · exact hL.moved (fun i k hk => ha.1 k (q.1 i k hk))
  have hb : ∀ j, 1000 ≤ j → σ1 j = σ j := fun j hj => ha.1 j (Or.inr hj)
  have C1 : Ctx M p s m args meth c D σ1 := ⟨C.1, C.2.1, C.2.2.1, C.2.2.2.1, C.2.2.2.2.1, C.2.2.2.2.2.1, C.2.2.2.2.2.2.1, C.2.2.2.2.2.2.2.1.agr hb, C.2.2.2.2.2.2.2.2⟩
  have hS1 : va_S A s.heap T'.heap (locs ++ LL) := by
    refine ⟨Nat.le_trans hS.1 (by rw [e1]; exact hF1), fun q h1 h2 => ?_, fun q hq => ?_⟩
    · rw [e1, hF2 q (Nat.lt_of_lt_of_le h1 hS.1) (fun z => h2 (hAA q z))]
      exact hS.2.1 q h1 h2
    · rcases List.mem_append.mp hq with h | h
      · exact hS.2.2 q h
      · exact hAA _ (hLL q h)
  have hk := k v1 μ1 hy v μ' hx p l e R s m args below meth c T'.heap (locs ++ LL) (cells + (csz Sh1 - csz Sh)) (slots + (ssz Sh1 - ssz Sh)) Q D σ1 A mc ms ls C1 (Z.agr hb) hA hR (by rw [e1]; exact hP1) (hD1.weaken (fun k q hk h => hAA q.1 h)) hS1 hL1 (by omega) (by omega) (fun H' locs' ls' σ' pcr ha' => hQ H' locs' ls' σ' pcr ⟨fun j hj => by rw [ha'.1 j (by omega)]; exact ha.1 j hj, fun q => by rw [ha'.2 (by omega)]; exact ha.2 (by omega)⟩)
  obtain ⟨t2, a1, b1⟩ := hk T' rfl X'
  refine ⟨t2, hst t2 ?_, b1⟩
  rw [List.map_append, ← rvO_psh, ← hσ st hn] at a1
  exact a1
theorem callB_M {R : Room} {s : State} {args : Array Value} {mc ms : Nat} (hts : ∀ w ∈ TB, w.before args s = true) (km : KM M' np) (hl : Cond.methodLink own idx M'.2.1 ∈ TB) (hm : M'.2.2.1 ≤ 21) (hR : d + 1 ≤ R.frames ∧ 40 * (d + 1) ≤ R.locals) : CallB R s args own idx M'.2.1 M'.1 M'.2.2.1 M'.2.2.2 (cw M') (RM d mc ms) mc ms np := by
  refine callB_of np hts (cw_good km.1) rfl rfl rfl (hts _ km.2.1) (hts _ hl) km.2.2.1 ⟨hR.1, ?_⟩
  show 8 + (M'.2.2.1 + 11) + 40 * d ≤ R.locals
  omega
theorem ok_callV {As : List Value} {ci r : Nat} {e0 : SE} (n : Nat) (hd : decode M.1 pc = .ok (.invokevirtual idx, 3)) (hp : pc + 3 = n) (ho : M.2.1.cls = own) (km : KM M' np) (ki : Cond.instanceMethod M'.2.1 ∈ TB) (kv : Cond.selects M'.2.1.cls M'.2.1 M'.2.1 ∈ TB) (hl : Cond.methodLink own idx M'.2.1 ∈ TB) (hm : M'.2.2.1 ≤ 21) (hS0 : Sh[r]? = some e0) (he : e0.1 = ci) (hci : ci < 13) (hcl : (vwC ci).1 = M'.2.1.cls) (hst0 : st0 = As.reverse ++ .ref r :: st) (hAs : As.length = np) (h8 : (st.map Value.category).sum ≤ 8) (hC : CM d M' Sh1 Sh (.ref r :: As) μ y) (hgr : csz Sh1 ≤ csz Sh' ∧ ssz Sh1 ≤ ssz Sh') (hn : csz Sh1 = csz Sh ∨ okR (csz Sh) L st)
    (k : ∀ v μ1, y = some (v, μ1) → Ok Sh' (d + 1) M n L (psh M' v ++ st) Sh1 μ1 (f v μ1)) : Ok Sh' (d + 1) M pc L st0 Sh μ (bd y f) := by
  subst hst0; subst ho; subst he
  refine Ok.call hp hC hgr hn (fun {_ _ _ _ _ _ _ _ _ _ _ _ _ _ D σ _ _ _ _ _ _ _} C Z hP hS hL hM hbl r1 r2 hf hpre => ?_) k
  refine va_runV (As := As.map (av σ)) (b := σ r) (C := M'.2.1.cls) (n := np) ⟨C.1, C.2.1, C.2.2.1, C.2.2.2.1, C.2.2.2.2.1⟩ hM ⟨callB_M C.2.2.2.2.1 km hl hm ⟨r1, r2⟩, C.2.2.2.2.1 _ ki, C.2.2.2.2.1 _ kv⟩ ⟨hbl, ?_, hpre⟩ rfl (by simpa using hAs) hL.1 ?_ (lv_room (st8 h8)) hd hf
  · rw [← hcl]
    exact va_recv C.2.2.2.2.2.1 hP (kc e0.1 hci).1 ((wd_at hS0).trans (by rw [ent_obj (show e0.1 < 100 by omega)]))
  · simp [av]
theorem ok_callS {As : List Value} (n : Nat) (hd : decode M.1 pc = .ok (.invokestatic idx, 3)) (hp : pc + 3 = n) (ho : M.2.1.cls = own) (km : KM M' np) (ks : Cond.static M'.2.1 ∈ TB) (hl : Cond.methodLink own idx M'.2.1 ∈ TB) (hm : M'.2.2.1 ≤ 21) (hst0 : st0 = As.reverse ++ st) (hAs : As.length = np) (h8 : (st.map Value.category).sum ≤ 8) (hC : CM d M' Sh1 Sh As μ y) (hgr : csz Sh1 ≤ csz Sh' ∧ ssz Sh1 ≤ ssz Sh') (hn : csz Sh1 = csz Sh ∨ okR (csz Sh) L st)
    (k : ∀ v μ1, y = some (v, μ1) → Ok Sh' (d + 1) M n L (psh M' v ++ st) Sh1 μ1 (f v μ1)) : Ok Sh' (d + 1) M pc L st0 Sh μ (bd y f) := by
  subst hst0; subst ho
  refine Ok.call hp hC hgr hn (fun {_ _ _ _ _ _ _ _ _ _ _ _ _ _ D σ _ _ _ _ _ _ _} C Z hP hS hL hM hbl r1 r2 hf hpre => ?_) k
  refine va_runS (As := As.map (av σ)) (n := np) ⟨C.1, C.2.1, C.2.2.1, C.2.2.2.1, C.2.2.2.2.1⟩ hM ⟨callB_M C.2.2.2.2.1 km hl hm ⟨r1, r2⟩, C.2.2.2.2.1 _ ks⟩ ⟨hbl, hpre⟩ rfl (by simpa using hAs) hL.1 ?_ (lv_room (st8 h8)) hd hf
  simp
theorem ok_callI {As : List Value} {r : Nat} (n : Nat) (hd : decode M.1 pc = .ok (.invokespecial idx, 3)) (hp : pc + 3 = n) (ho : M.2.1.cls = own) (km : KM M' np) (ki : Cond.instanceMethod M'.2.1 ∈ TB) (hl : Cond.methodLink own idx M'.2.1 ∈ TB) (hm : M'.2.2.1 ≤ 21) (hnm : M'.2.1.name = "<init>") (hrt : M'.2.2.2 = none) (hst0 : st0 = As.reverse ++ .ref r :: st) (hAs : As.length = np) (h8 : (st.map Value.category).sum ≤ 8) (hC : CM d M' Sh1 Sh (.ref r :: As) μ y) (hgr : csz Sh1 ≤ csz Sh' ∧ ssz Sh1 ≤ ssz Sh') (hn : csz Sh1 = csz Sh ∨ okR (csz Sh) L st)
    (k : ∀ v μ1, y = some (v, μ1) → Ok Sh' (d + 1) M n L st Sh1 μ1 (f v μ1)) : Ok Sh' (d + 1) M pc L st0 Sh μ (bd y f) := by
  subst hst0; subst ho
  refine Ok.call (M' := M') hp hC hgr hn (fun {_ _ _ R s _ args _ _ _ _ _ _ _ D σ _ _ mc ms _ _ _} C Z hP hS hL hM hbl r1 r2 hf hpre => ?_) (fun v μ1 q => by rw [show psh M' v = [] by simp [psh, hrt]]; exact k v μ1 q)
  have hcb := callB_M (R := R) (s := s) (args := args) (mc := mc) (ms := ms) C.2.2.2.2.1 km hl hm ⟨r1, r2⟩
  rw [hrt] at hcb
  refine va_runI (As := As.map (av σ)) (b := σ r) (n := np) ⟨C.1, C.2.1, C.2.2.1, C.2.2.2.1, C.2.2.2.2.1⟩ hM ⟨hcb, hnm, C.2.2.2.2.1 _ ki⟩ ⟨hbl, hpre⟩ rfl (by simpa using hAs) hL.1 ?_ (lv_room (st8 h8)) hd hf
  simp [av]
theorem cnB_M {R : Room} {s : State} {args : Array Value} {mc ms : Nat} {host : String} (hts : ∀ w ∈ TB, w.before args s = true) (km : KM M' np) (hl : va_Nw (.methodLinkNest own idx M'.2.1 host) s) (hm : M'.2.2.1 ≤ 21) (hR : d + 1 ≤ R.frames ∧ 40 * (d + 1) ≤ R.locals) : va_CN R s args own idx M'.2.1 host M'.1 M'.2.2.1 M'.2.2.2 (cw M') (RM d mc ms) mc ms np := by
  refine va_cnB np hts (cw_good km.1) rfl rfl rfl hl (hts _ km.2.1) km.2.2.1 ⟨hR.1, ?_⟩
  show 8 + (M'.2.2.1 + 11) + 40 * d ≤ R.locals
  omega
theorem ok_callSN {As : List Value} {host : String} (n i : Nat) (hd : decode M.1 pc = .ok (.invokestatic idx, 3)) (hp : pc + 3 = n) (ho : M.2.1.cls = own) (km : KM M' np) (ks : Cond.static M'.2.1 ∈ TB) (hl : nestL[i]? = some (own, idx, M'.2.1, host)) (hm : M'.2.2.1 ≤ 21) (hst0 : st0 = As.reverse ++ st) (hAs : As.length = np) (h8 : (st.map Value.category).sum ≤ 8) (hC : CM d M' Sh1 Sh As μ y) (hgr : csz Sh1 ≤ csz Sh' ∧ ssz Sh1 ≤ ssz Sh') (hn : csz Sh1 = csz Sh ∨ okR (csz Sh) L st)
    (k : ∀ v μ1, y = some (v, μ1) → Ok Sh' (d + 1) M n L (psh M' v ++ st) Sh1 μ1 (f v μ1)) : Ok Sh' (d + 1) M pc L st0 Sh μ (bd y f) := by
  subst hst0; subst ho
  refine Ok.call hp hC hgr hn (fun {_ _ _ _ _ _ _ _ _ _ _ _ _ _ D σ _ _ _ _ _ _ _} C Z hP hS hL hM hbl r1 r2 hf hpre => ?_) k
  have hN := C.2.2.2.2.2.2.2.2.1 _ (List.mem_of_getElem? hl)
  refine va_runSN (As := As.map (av σ)) (n := np) (host := host) ⟨C.1, C.2.1, C.2.2.1, C.2.2.2.1, C.2.2.2.2.1⟩ hM ⟨cnB_M C.2.2.2.2.1 km hN hm ⟨r1, r2⟩, C.2.2.2.2.1 _ ks, trivial⟩ ⟨hbl, hpre⟩ rfl (by simpa using hAs) hL.1 ?_ (lv_room (st8 h8)) hd hf
  simp
theorem ok_callIN {As : List Value} {r : Nat} {host : String} (n i : Nat) (hd : decode M.1 pc = .ok (.invokespecial idx, 3)) (hp : pc + 3 = n) (ho : M.2.1.cls = own) (km : KM M' np) (ki : Cond.instanceMethod M'.2.1 ∈ TB) (hl : nestL[i]? = some (own, idx, M'.2.1, host)) (hm : M'.2.2.1 ≤ 21) (hnm : M'.2.1.name = "<init>") (hrt : M'.2.2.2 = none) (hst0 : st0 = As.reverse ++ .ref r :: st) (hAs : As.length = np) (h8 : (st.map Value.category).sum ≤ 8) (hC : CM d M' Sh1 Sh (.ref r :: As) μ y) (hgr : csz Sh1 ≤ csz Sh' ∧ ssz Sh1 ≤ ssz Sh') (hn : csz Sh1 = csz Sh ∨ okR (csz Sh) L st)
    (k : ∀ v μ1, y = some (v, μ1) → Ok Sh' (d + 1) M n L st Sh1 μ1 (f v μ1)) : Ok Sh' (d + 1) M pc L st0 Sh μ (bd y f) := by
  subst hst0; subst ho
  refine Ok.call (M' := M') hp hC hgr hn (fun {_ _ _ R s _ args _ _ _ _ _ _ _ D σ _ _ mc ms _ _ _} C Z hP hS hL hM hbl r1 r2 hf hpre => ?_) (fun v μ1 q => by rw [show psh M' v = [] by simp [psh, hrt]]; exact k v μ1 q)
  have hN := C.2.2.2.2.2.2.2.2.1 _ (List.mem_of_getElem? hl)
  have hcb := cnB_M (R := R) (s := s) (args := args) (mc := mc) (ms := ms) C.2.2.2.2.1 km hN hm ⟨r1, r2⟩
  rw [hrt] at hcb
  refine va_runIN (As := As.map (av σ)) (b := σ r) (n := np) (host := host) ⟨C.1, C.2.1, C.2.2.1, C.2.2.2.1, C.2.2.2.2.1⟩ hM ⟨hcb, hnm, C.2.2.2.2.1 _ ki⟩ ⟨hbl, hpre⟩ rfl (by simpa using hAs) hL.1 ?_ (lv_room (st8 h8)) hd hf
  simp [av]
end CALL
end
section
def SG : List SE := [(11, 13, [some 2, some 25, none, some 48, some 92, some 99, some 103, some 110, some 113, some 116, some 121, some 122, some 1]), (100, 12, []), (1, 11, [some 3, some 5, some 7, some 9, some 11, some 13, some 15, some 17, some 19, some 21, some 23]), (9, 4, [some 4, none, none, none]), (100, 96, []), (9, 4, [some 6, none, none, none]), (100, 40, []), (9, 4, [some 8, none, none, none]), (100, 7, []), (9, 4, [some 10, none, none, none]), (100, 600, []), (9, 4, [some 12, none, none, none]), (100, 64, []), (9, 4, [some 14, none, none, none]), (100, 800, []), (9, 4, [some 16, none, none, none]), (100, 64, []), (9, 4, [some 18, none, none, none]), (100, 64, []), (9, 4, [some 20, none, none, none]), (100, 64, []), (9, 4, [some 22, none, none, none]), (100, 16, []), (9, 4, [some 24, none, none, none]), (100, 10, []), (1, 11, [some 26, some 28, some 30, some 32, some 34, some 36, some 38, some 40, some 42, some 44, some 46]), (9, 4, [some 27, none, none, none]), (100, 96, []), (9, 4, [some 29, none, none, none]), (100, 40, []), (9, 4, [some 31, none, none, none]), (100, 7, []), (9, 4, [some 33, none, none, none]), (100, 600, []), (9, 4, [some 35, none, none, none]), (100, 64, []), (9, 4, [some 37, none, none, none]), (100, 800, []), (9, 4, [some 39, none, none, none]), (100, 64, []), (9, 4, [some 41, none, none, none]), (100, 64, []), (9, 4, [some 43, none, none, none]), (100, 64, []), (9, 4, [some 45, none, none, none]), (100, 16, []), (9, 4, [some 47, none, none, none]), (100, 10, []), (4, 3, [some 49, none, none]), (101, 6, [some 50, some 57, some 64, some 71, some 78, some 85]), (3, 4, [some 51, some 53, some 55, none]), (9, 4, [some 52, none, none, none]), (100, 96, []), (9, 4, [some 54, none, none, none]), (100, 40, []), (9, 4, [some 56, none, none, none]), (100, 7, []), (3, 4, [some 58, some 60, some 62, none]), (9, 4, [some 59, none, none, none]), (100, 96, []), (9, 4, [some 61, none, none, none]), (100, 40, []), (9, 4, [some 63, none, none, none]), (100, 7, []), (3, 4, [some 65, some 67, some 69, none]), (9, 4, [some 66, none, none, none]), (100, 96, []), (9, 4, [some 68, none, none, none]), (100, 40, []), (9, 4, [some 70, none, none, none]), (100, 7, []), (3, 4, [some 72, some 74, some 76, none]), (9, 4, [some 73, none, none, none]), (100, 96, []), (9, 4, [some 75, none, none, none]), (100, 40, []), (9, 4, [some 77, none, none, none]), (100, 7, []), (3, 4, [some 79, some 81, some 83, none]), (9, 4, [some 80, none, none, none]), (100, 96, []), (9, 4, [some 82, none, none, none]), (100, 40, []), (9, 4, [some 84, none, none, none]), (100, 7, []), (3, 4, [some 86, some 88, some 90, none]), (9, 4, [some 87, none, none, none]), (100, 96, []), (9, 4, [some 89, none, none, none]), (100, 40, []), (9, 4, [some 91, none, none, none]), (100, 7, []), (3, 4, [some 93, some 95, some 97, none]), (9, 4, [some 94, none, none, none]), (100, 96, []), (9, 4, [some 96, none, none, none]), (100, 40, []), (9, 4, [some 98, none, none, none]), (100, 7, []), (10, 7, [some 100, some 101, none, none, none, none, none]), (100, 400, []), (9, 4, [some 102, none, none, none]), (100, 1203, []), (6, 12, [some 99, some 104, some 106, none, none, some 108, none, none, none, none, none, none]), (9, 4, [some 105, none, none, none]), (100, 64, []), (9, 4, [some 107, none, none, none]), (100, 800, []), (9, 4, [some 109, none, none, none]), (100, 400, []), (2, 3, [some 2, some 111, some 112]), (100, 10, []), (100, 64, []), (8, 7, [some 2, some 110, some 114, some 115, none, none, none]), (100, 12, []), (100, 12, []), (0, 7, [some 2, some 110, some 113, some 117, some 119, none, none]), (9, 4, [some 118, none, none, none]), (100, 60, []), (9, 4, [some 120, none, none, none]), (100, 5, []), (7, 1, [some 2]), (5, 1, [some 2]), (12, 35, [some 124, some 125, some 126, some 127, none, none, some 128, some 129, some 130, some 131, some 132, some 133, none, none, none, none, none, none, none, none, none, none, none, none, none, none, none, some 134, none, none, none, none, some 135, some 136, some 137]), (100, 1707, []), (100, 1707, []), (100, 222, []), (100, 37, []), (100, 64, []), (100, 820, []), (100, 48, []), (100, 400, []), (100, 420, []), (100, 11, []), (100, 12, []), (100, 256, []), (100, 12, []), (100, 61, [])]
def sgd (r : Nat) : SE := SG.getD r (999, 0, [])
def tg (r : Nat) : Nat := (sgd r).1
def al (r : Nat) : Nat := (sgd r).2.1
def rq (r j : Nat) : Nat := ((sgd r).2.2.getD j none).getD 0
theorem sg_0 : SG[0]? = some (11, 13, [some 2, some 25, none, some 48, some 92, some 99, some 103, some 110, some 113, some 116, some 121, some 122, some 1]) := rfl
theorem tg_0 : tg 0 = 11 := rfl
theorem sg_1 : SG[1]? = some (100, 12, []) := rfl
theorem tg_1 : tg 1 = 100 := rfl
theorem sg_2 : SG[2]? = some (1, 11, [some 3, some 5, some 7, some 9, some 11, some 13, some 15, some 17, some 19, some 21, some 23]) := rfl
theorem tg_2 : tg 2 = 1 := rfl
theorem sg_3 : SG[3]? = some (9, 4, [some 4, none, none, none]) := rfl
theorem tg_3 : tg 3 = 9 := rfl
theorem sg_4 : SG[4]? = some (100, 96, []) := rfl
theorem tg_4 : tg 4 = 100 := rfl
theorem sg_5 : SG[5]? = some (9, 4, [some 6, none, none, none]) := rfl
theorem tg_5 : tg 5 = 9 := rfl
theorem sg_6 : SG[6]? = some (100, 40, []) := rfl
theorem tg_6 : tg 6 = 100 := rfl
theorem sg_7 : SG[7]? = some (9, 4, [some 8, none, none, none]) := rfl
theorem tg_7 : tg 7 = 9 := rfl
theorem sg_8 : SG[8]? = some (100, 7, []) := rfl
theorem tg_8 : tg 8 = 100 := rfl
theorem sg_9 : SG[9]? = some (9, 4, [some 10, none, none, none]) := rfl
theorem tg_9 : tg 9 = 9 := rfl
theorem sg_10 : SG[10]? = some (100, 600, []) := rfl
theorem tg_10 : tg 10 = 100 := rfl
theorem sg_11 : SG[11]? = some (9, 4, [some 12, none, none, none]) := rfl
theorem tg_11 : tg 11 = 9 := rfl
theorem sg_12 : SG[12]? = some (100, 64, []) := rfl
theorem tg_12 : tg 12 = 100 := rfl
theorem sg_13 : SG[13]? = some (9, 4, [some 14, none, none, none]) := rfl
theorem tg_13 : tg 13 = 9 := rfl
theorem sg_14 : SG[14]? = some (100, 800, []) := rfl
theorem tg_14 : tg 14 = 100 := rfl
theorem sg_15 : SG[15]? = some (9, 4, [some 16, none, none, none]) := rfl
theorem tg_15 : tg 15 = 9 := rfl
theorem sg_16 : SG[16]? = some (100, 64, []) := rfl
theorem tg_16 : tg 16 = 100 := rfl
theorem sg_17 : SG[17]? = some (9, 4, [some 18, none, none, none]) := rfl
theorem tg_17 : tg 17 = 9 := rfl
theorem sg_18 : SG[18]? = some (100, 64, []) := rfl
theorem tg_18 : tg 18 = 100 := rfl
theorem sg_19 : SG[19]? = some (9, 4, [some 20, none, none, none]) := rfl
theorem tg_19 : tg 19 = 9 := rfl
theorem sg_20 : SG[20]? = some (100, 64, []) := rfl
theorem tg_20 : tg 20 = 100 := rfl
theorem sg_21 : SG[21]? = some (9, 4, [some 22, none, none, none]) := rfl
theorem tg_21 : tg 21 = 9 := rfl
theorem sg_22 : SG[22]? = some (100, 16, []) := rfl
theorem tg_22 : tg 22 = 100 := rfl
theorem sg_23 : SG[23]? = some (9, 4, [some 24, none, none, none]) := rfl
theorem tg_23 : tg 23 = 9 := rfl
theorem sg_24 : SG[24]? = some (100, 10, []) := rfl
theorem tg_24 : tg 24 = 100 := rfl
theorem sg_25 : SG[25]? = some (1, 11, [some 26, some 28, some 30, some 32, some 34, some 36, some 38, some 40, some 42, some 44, some 46]) := rfl
theorem tg_25 : tg 25 = 1 := rfl
theorem sg_26 : SG[26]? = some (9, 4, [some 27, none, none, none]) := rfl
theorem tg_26 : tg 26 = 9 := rfl
theorem sg_27 : SG[27]? = some (100, 96, []) := rfl
theorem tg_27 : tg 27 = 100 := rfl
theorem sg_28 : SG[28]? = some (9, 4, [some 29, none, none, none]) := rfl
theorem tg_28 : tg 28 = 9 := rfl
theorem sg_29 : SG[29]? = some (100, 40, []) := rfl
theorem tg_29 : tg 29 = 100 := rfl
theorem sg_30 : SG[30]? = some (9, 4, [some 31, none, none, none]) := rfl
theorem tg_30 : tg 30 = 9 := rfl
theorem sg_31 : SG[31]? = some (100, 7, []) := rfl
theorem tg_31 : tg 31 = 100 := rfl
theorem sg_32 : SG[32]? = some (9, 4, [some 33, none, none, none]) := rfl
theorem tg_32 : tg 32 = 9 := rfl
theorem sg_33 : SG[33]? = some (100, 600, []) := rfl
theorem tg_33 : tg 33 = 100 := rfl
theorem sg_34 : SG[34]? = some (9, 4, [some 35, none, none, none]) := rfl
theorem tg_34 : tg 34 = 9 := rfl
theorem sg_35 : SG[35]? = some (100, 64, []) := rfl
theorem tg_35 : tg 35 = 100 := rfl
theorem sg_36 : SG[36]? = some (9, 4, [some 37, none, none, none]) := rfl
theorem tg_36 : tg 36 = 9 := rfl
theorem sg_37 : SG[37]? = some (100, 800, []) := rfl
theorem tg_37 : tg 37 = 100 := rfl
theorem sg_38 : SG[38]? = some (9, 4, [some 39, none, none, none]) := rfl
theorem tg_38 : tg 38 = 9 := rfl
theorem sg_39 : SG[39]? = some (100, 64, []) := rfl
theorem tg_39 : tg 39 = 100 := rfl
theorem sg_40 : SG[40]? = some (9, 4, [some 41, none, none, none]) := rfl
theorem tg_40 : tg 40 = 9 := rfl
theorem sg_41 : SG[41]? = some (100, 64, []) := rfl
theorem tg_41 : tg 41 = 100 := rfl
theorem sg_42 : SG[42]? = some (9, 4, [some 43, none, none, none]) := rfl
theorem tg_42 : tg 42 = 9 := rfl
theorem sg_43 : SG[43]? = some (100, 64, []) := rfl
theorem tg_43 : tg 43 = 100 := rfl
theorem sg_44 : SG[44]? = some (9, 4, [some 45, none, none, none]) := rfl
theorem tg_44 : tg 44 = 9 := rfl
theorem sg_45 : SG[45]? = some (100, 16, []) := rfl
theorem tg_45 : tg 45 = 100 := rfl
theorem sg_46 : SG[46]? = some (9, 4, [some 47, none, none, none]) := rfl
theorem tg_46 : tg 46 = 9 := rfl
theorem sg_47 : SG[47]? = some (100, 10, []) := rfl
theorem tg_47 : tg 47 = 100 := rfl
theorem sg_48 : SG[48]? = some (4, 3, [some 49, none, none]) := rfl
theorem tg_48 : tg 48 = 4 := rfl
theorem sg_49 : SG[49]? = some (101, 6, [some 50, some 57, some 64, some 71, some 78, some 85]) := rfl
theorem tg_49 : tg 49 = 101 := rfl
theorem sg_50 : SG[50]? = some (3, 4, [some 51, some 53, some 55, none]) := rfl
theorem tg_50 : tg 50 = 3 := rfl
theorem sg_51 : SG[51]? = some (9, 4, [some 52, none, none, none]) := rfl
theorem tg_51 : tg 51 = 9 := rfl
theorem sg_52 : SG[52]? = some (100, 96, []) := rfl
theorem tg_52 : tg 52 = 100 := rfl
theorem sg_53 : SG[53]? = some (9, 4, [some 54, none, none, none]) := rfl
theorem tg_53 : tg 53 = 9 := rfl
theorem sg_54 : SG[54]? = some (100, 40, []) := rfl
theorem tg_54 : tg 54 = 100 := rfl
theorem sg_55 : SG[55]? = some (9, 4, [some 56, none, none, none]) := rfl
theorem tg_55 : tg 55 = 9 := rfl
theorem sg_56 : SG[56]? = some (100, 7, []) := rfl
theorem tg_56 : tg 56 = 100 := rfl
theorem sg_57 : SG[57]? = some (3, 4, [some 58, some 60, some 62, none]) := rfl
theorem tg_57 : tg 57 = 3 := rfl
theorem sg_58 : SG[58]? = some (9, 4, [some 59, none, none, none]) := rfl
theorem tg_58 : tg 58 = 9 := rfl
theorem sg_59 : SG[59]? = some (100, 96, []) := rfl
theorem tg_59 : tg 59 = 100 := rfl
theorem sg_60 : SG[60]? = some (9, 4, [some 61, none, none, none]) := rfl
theorem tg_60 : tg 60 = 9 := rfl
theorem sg_61 : SG[61]? = some (100, 40, []) := rfl
theorem tg_61 : tg 61 = 100 := rfl
theorem sg_62 : SG[62]? = some (9, 4, [some 63, none, none, none]) := rfl
theorem tg_62 : tg 62 = 9 := rfl
theorem sg_63 : SG[63]? = some (100, 7, []) := rfl
theorem tg_63 : tg 63 = 100 := rfl
theorem sg_64 : SG[64]? = some (3, 4, [some 65, some 67, some 69, none]) := rfl
theorem tg_64 : tg 64 = 3 := rfl
theorem sg_65 : SG[65]? = some (9, 4, [some 66, none, none, none]) := rfl
theorem tg_65 : tg 65 = 9 := rfl
theorem sg_66 : SG[66]? = some (100, 96, []) := rfl
theorem tg_66 : tg 66 = 100 := rfl
theorem sg_67 : SG[67]? = some (9, 4, [some 68, none, none, none]) := rfl
theorem tg_67 : tg 67 = 9 := rfl
theorem sg_68 : SG[68]? = some (100, 40, []) := rfl
theorem tg_68 : tg 68 = 100 := rfl
theorem sg_69 : SG[69]? = some (9, 4, [some 70, none, none, none]) := rfl
theorem tg_69 : tg 69 = 9 := rfl
theorem sg_70 : SG[70]? = some (100, 7, []) := rfl
theorem tg_70 : tg 70 = 100 := rfl
theorem sg_71 : SG[71]? = some (3, 4, [some 72, some 74, some 76, none]) := rfl
theorem tg_71 : tg 71 = 3 := rfl
theorem sg_72 : SG[72]? = some (9, 4, [some 73, none, none, none]) := rfl
theorem tg_72 : tg 72 = 9 := rfl
theorem sg_73 : SG[73]? = some (100, 96, []) := rfl
theorem tg_73 : tg 73 = 100 := rfl
theorem sg_74 : SG[74]? = some (9, 4, [some 75, none, none, none]) := rfl
theorem tg_74 : tg 74 = 9 := rfl
theorem sg_75 : SG[75]? = some (100, 40, []) := rfl
theorem tg_75 : tg 75 = 100 := rfl
theorem sg_76 : SG[76]? = some (9, 4, [some 77, none, none, none]) := rfl
theorem tg_76 : tg 76 = 9 := rfl
theorem sg_77 : SG[77]? = some (100, 7, []) := rfl
theorem tg_77 : tg 77 = 100 := rfl
theorem sg_78 : SG[78]? = some (3, 4, [some 79, some 81, some 83, none]) := rfl
theorem tg_78 : tg 78 = 3 := rfl
theorem sg_79 : SG[79]? = some (9, 4, [some 80, none, none, none]) := rfl
theorem tg_79 : tg 79 = 9 := rfl
theorem sg_80 : SG[80]? = some (100, 96, []) := rfl
theorem tg_80 : tg 80 = 100 := rfl
theorem sg_81 : SG[81]? = some (9, 4, [some 82, none, none, none]) := rfl
theorem tg_81 : tg 81 = 9 := rfl
theorem sg_82 : SG[82]? = some (100, 40, []) := rfl
theorem tg_82 : tg 82 = 100 := rfl
theorem sg_83 : SG[83]? = some (9, 4, [some 84, none, none, none]) := rfl
theorem tg_83 : tg 83 = 9 := rfl
theorem sg_84 : SG[84]? = some (100, 7, []) := rfl
theorem tg_84 : tg 84 = 100 := rfl
theorem sg_85 : SG[85]? = some (3, 4, [some 86, some 88, some 90, none]) := rfl
theorem tg_85 : tg 85 = 3 := rfl
theorem sg_86 : SG[86]? = some (9, 4, [some 87, none, none, none]) := rfl
theorem tg_86 : tg 86 = 9 := rfl
theorem sg_87 : SG[87]? = some (100, 96, []) := rfl
theorem tg_87 : tg 87 = 100 := rfl
theorem sg_88 : SG[88]? = some (9, 4, [some 89, none, none, none]) := rfl
theorem tg_88 : tg 88 = 9 := rfl
theorem sg_89 : SG[89]? = some (100, 40, []) := rfl
theorem tg_89 : tg 89 = 100 := rfl
theorem sg_90 : SG[90]? = some (9, 4, [some 91, none, none, none]) := rfl
theorem tg_90 : tg 90 = 9 := rfl
theorem sg_91 : SG[91]? = some (100, 7, []) := rfl
theorem tg_91 : tg 91 = 100 := rfl
theorem sg_92 : SG[92]? = some (3, 4, [some 93, some 95, some 97, none]) := rfl
theorem tg_92 : tg 92 = 3 := rfl
theorem sg_93 : SG[93]? = some (9, 4, [some 94, none, none, none]) := rfl
theorem tg_93 : tg 93 = 9 := rfl
theorem sg_94 : SG[94]? = some (100, 96, []) := rfl
theorem tg_94 : tg 94 = 100 := rfl
theorem sg_95 : SG[95]? = some (9, 4, [some 96, none, none, none]) := rfl
theorem tg_95 : tg 95 = 9 := rfl
theorem sg_96 : SG[96]? = some (100, 40, []) := rfl
theorem tg_96 : tg 96 = 100 := rfl
theorem sg_97 : SG[97]? = some (9, 4, [some 98, none, none, none]) := rfl
theorem tg_97 : tg 97 = 9 := rfl
theorem sg_98 : SG[98]? = some (100, 7, []) := rfl
theorem tg_98 : tg 98 = 100 := rfl
theorem sg_99 : SG[99]? = some (10, 7, [some 100, some 101, none, none, none, none, none]) := rfl
theorem tg_99 : tg 99 = 10 := rfl
theorem sg_100 : SG[100]? = some (100, 400, []) := rfl
theorem tg_100 : tg 100 = 100 := rfl
theorem sg_101 : SG[101]? = some (9, 4, [some 102, none, none, none]) := rfl
theorem tg_101 : tg 101 = 9 := rfl
theorem sg_102 : SG[102]? = some (100, 1203, []) := rfl
theorem tg_102 : tg 102 = 100 := rfl
theorem sg_103 : SG[103]? = some (6, 12, [some 99, some 104, some 106, none, none, some 108, none, none, none, none, none, none]) := rfl
theorem tg_103 : tg 103 = 6 := rfl
theorem sg_104 : SG[104]? = some (9, 4, [some 105, none, none, none]) := rfl
theorem tg_104 : tg 104 = 9 := rfl
theorem sg_105 : SG[105]? = some (100, 64, []) := rfl
theorem tg_105 : tg 105 = 100 := rfl
theorem sg_106 : SG[106]? = some (9, 4, [some 107, none, none, none]) := rfl
theorem tg_106 : tg 106 = 9 := rfl
theorem sg_107 : SG[107]? = some (100, 800, []) := rfl
theorem tg_107 : tg 107 = 100 := rfl
theorem sg_108 : SG[108]? = some (9, 4, [some 109, none, none, none]) := rfl
theorem tg_108 : tg 108 = 9 := rfl
theorem sg_109 : SG[109]? = some (100, 400, []) := rfl
theorem tg_109 : tg 109 = 100 := rfl
theorem sg_110 : SG[110]? = some (2, 3, [some 2, some 111, some 112]) := rfl
theorem tg_110 : tg 110 = 2 := rfl
theorem sg_111 : SG[111]? = some (100, 10, []) := rfl
theorem tg_111 : tg 111 = 100 := rfl
theorem sg_112 : SG[112]? = some (100, 64, []) := rfl
theorem tg_112 : tg 112 = 100 := rfl
theorem sg_113 : SG[113]? = some (8, 7, [some 2, some 110, some 114, some 115, none, none, none]) := rfl
theorem tg_113 : tg 113 = 8 := rfl
theorem sg_114 : SG[114]? = some (100, 12, []) := rfl
theorem tg_114 : tg 114 = 100 := rfl
theorem sg_115 : SG[115]? = some (100, 12, []) := rfl
theorem tg_115 : tg 115 = 100 := rfl
theorem sg_116 : SG[116]? = some (0, 7, [some 2, some 110, some 113, some 117, some 119, none, none]) := rfl
theorem tg_116 : tg 116 = 0 := rfl
theorem sg_117 : SG[117]? = some (9, 4, [some 118, none, none, none]) := rfl
theorem tg_117 : tg 117 = 9 := rfl
theorem sg_118 : SG[118]? = some (100, 60, []) := rfl
theorem tg_118 : tg 118 = 100 := rfl
theorem sg_119 : SG[119]? = some (9, 4, [some 120, none, none, none]) := rfl
theorem tg_119 : tg 119 = 9 := rfl
theorem sg_120 : SG[120]? = some (100, 5, []) := rfl
theorem tg_120 : tg 120 = 100 := rfl
theorem sg_121 : SG[121]? = some (7, 1, [some 2]) := rfl
theorem tg_121 : tg 121 = 7 := rfl
theorem sg_122 : SG[122]? = some (5, 1, [some 2]) := rfl
theorem tg_122 : tg 122 = 5 := rfl
theorem sg_123 : SG[123]? = some (12, 35, [some 124, some 125, some 126, some 127, none, none, some 128, some 129, some 130, some 131, some 132, some 133, none, none, none, none, none, none, none, none, none, none, none, none, none, none, none, some 134, none, none, none, none, some 135, some 136, some 137]) := rfl
theorem tg_123 : tg 123 = 12 := rfl
theorem sg_124 : SG[124]? = some (100, 1707, []) := rfl
theorem tg_124 : tg 124 = 100 := rfl
theorem sg_125 : SG[125]? = some (100, 1707, []) := rfl
theorem tg_125 : tg 125 = 100 := rfl
theorem sg_126 : SG[126]? = some (100, 222, []) := rfl
theorem tg_126 : tg 126 = 100 := rfl
theorem sg_127 : SG[127]? = some (100, 37, []) := rfl
theorem tg_127 : tg 127 = 100 := rfl
theorem sg_128 : SG[128]? = some (100, 64, []) := rfl
theorem tg_128 : tg 128 = 100 := rfl
theorem sg_129 : SG[129]? = some (100, 820, []) := rfl
theorem tg_129 : tg 129 = 100 := rfl
theorem sg_130 : SG[130]? = some (100, 48, []) := rfl
theorem tg_130 : tg 130 = 100 := rfl
theorem sg_131 : SG[131]? = some (100, 400, []) := rfl
theorem tg_131 : tg 131 = 100 := rfl
theorem sg_132 : SG[132]? = some (100, 420, []) := rfl
theorem tg_132 : tg 132 = 100 := rfl
theorem sg_133 : SG[133]? = some (100, 11, []) := rfl
theorem tg_133 : tg 133 = 100 := rfl
theorem sg_134 : SG[134]? = some (100, 12, []) := rfl
theorem tg_134 : tg 134 = 100 := rfl
theorem sg_135 : SG[135]? = some (100, 256, []) := rfl
theorem tg_135 : tg 135 = 100 := rfl
theorem sg_136 : SG[136]? = some (100, 12, []) := rfl
theorem tg_136 : tg 136 = 100 := rfl
theorem sg_137 : SG[137]? = some (100, 61, []) := rfl
theorem tg_137 : tg 137 = 100 := rfl
theorem sg_big {r : Nat} (h : 138 ≤ r) : tg r = 999 := by
  unfold tg sgd
  rw [List.getD_eq_getElem?_getD, List.getElem?_eq_none (by exact h)]
  rfl
theorem sg_lt {r t : Nat} (h : tg r = t) (ht : t ≠ 999) : r < 138 := by
  rcases Nat.lt_or_ge r 138 with q | q
  · exact q
  · exact absurd ((sg_big q).symm.trans h) (fun z => ht z.symm)
theorem sg_of {r : Nat} (h : r < 138) : SG[r]? = some (tg r, al r, (sgd r).2.2) := by
  have h2 : r < SG.length := h
  unfold tg al sgd
  rw [List.getD_eq_getElem?_getD, List.getElem?_eq_getElem h2]
  rfl
theorem sg_Taz : ∀ r, r < 138 → tg r = 9 → al r = 4 ∧ (sgd r).2.2 = [some (rq r 0), none, none, none] := by decide +kernel
theorem sg_Ta (r : Nat) (h : tg r = 9) : al r = 4 ∧ (sgd r).2.2 = [some (rq r 0), none, none, none] := sg_Taz r (sg_lt h (by decide)) h
theorem sg_T (r : Nat) (h : tg r = 9) : SG[r]? = some (9, 4, [some (rq r 0), none, none, none]) := by
  have h2 := sg_Ta r h
  rw [sg_of (sg_lt h (by decide)), h, h2.1, h2.2]
theorem sg_Maz : ∀ r, r < 138 → tg r = 3 → al r = 4 ∧ (sgd r).2.2 = [some (rq r 0), some (rq r 1), some (rq r 2), none] := by decide +kernel
theorem sg_Ma (r : Nat) (h : tg r = 3) : al r = 4 ∧ (sgd r).2.2 = [some (rq r 0), some (rq r 1), some (rq r 2), none] := sg_Maz r (sg_lt h (by decide)) h
theorem sg_M (r : Nat) (h : tg r = 3) : SG[r]? = some (3, 4, [some (rq r 0), some (rq r 1), some (rq r 2), none]) := by
  have h2 := sg_Ma r h
  rw [sg_of (sg_lt h (by decide)), h, h2.1, h2.2]
theorem sg_Haz : ∀ r, r < 138 → tg r = 1 → al r = 11 ∧ (sgd r).2.2 = [some (rq r 0), some (rq r 1), some (rq r 2), some (rq r 3), some (rq r 4), some (rq r 5), some (rq r 6), some (rq r 7), some (rq r 8), some (rq r 9), some (rq r 10)] := by decide +kernel
theorem sg_Ha (r : Nat) (h : tg r = 1) : al r = 11 ∧ (sgd r).2.2 = [some (rq r 0), some (rq r 1), some (rq r 2), some (rq r 3), some (rq r 4), some (rq r 5), some (rq r 6), some (rq r 7), some (rq r 8), some (rq r 9), some (rq r 10)] := sg_Haz r (sg_lt h (by decide)) h
theorem sg_H (r : Nat) (h : tg r = 1) : SG[r]? = some (1, 11, [some (rq r 0), some (rq r 1), some (rq r 2), some (rq r 3), some (rq r 4), some (rq r 5), some (rq r 6), some (rq r 7), some (rq r 8), some (rq r 9), some (rq r 10)]) := by
  have h2 := sg_Ha r h
  rw [sg_of (sg_lt h (by decide)), h, h2.1, h2.2]
theorem sg_Aaz : ∀ r, r < 138 → tg r = 100 → (sgd r).2.2 = [] := by decide +kernel
theorem sg_Aa (r : Nat) (h : tg r = 100) : (sgd r).2.2 = [] := sg_Aaz r (sg_lt h (by decide)) h
theorem sg_A (r : Nat) (h : tg r = 100) : SG[r]? = some (100, al r, []) := by
  rw [sg_of (sg_lt h (by decide)), h, sg_Aa r h]
theorem rt_9_0z : ∀ r, r < 138 → tg r = 9 → tg (rq r 0) = 100 := by decide +kernel
theorem rt_9_0 (r : Nat) (h : tg r = 9) : tg (rq r 0) = 100 := rt_9_0z r (sg_lt h (by decide)) h
theorem rt_3_0z : ∀ r, r < 138 → tg r = 3 → tg (rq r 0) = 9 := by decide +kernel
theorem rt_3_0 (r : Nat) (h : tg r = 3) : tg (rq r 0) = 9 := rt_3_0z r (sg_lt h (by decide)) h
theorem rt_3_1z : ∀ r, r < 138 → tg r = 3 → tg (rq r 1) = 9 := by decide +kernel
theorem rt_3_1 (r : Nat) (h : tg r = 3) : tg (rq r 1) = 9 := rt_3_1z r (sg_lt h (by decide)) h
theorem rt_3_2z : ∀ r, r < 138 → tg r = 3 → tg (rq r 2) = 9 := by decide +kernel
theorem rt_3_2 (r : Nat) (h : tg r = 3) : tg (rq r 2) = 9 := rt_3_2z r (sg_lt h (by decide)) h
theorem rt_1_0z : ∀ r, r < 138 → tg r = 1 → tg (rq r 0) = 9 := by decide +kernel
theorem rt_1_0 (r : Nat) (h : tg r = 1) : tg (rq r 0) = 9 := rt_1_0z r (sg_lt h (by decide)) h
theorem rt_1_1z : ∀ r, r < 138 → tg r = 1 → tg (rq r 1) = 9 := by decide +kernel
theorem rt_1_1 (r : Nat) (h : tg r = 1) : tg (rq r 1) = 9 := rt_1_1z r (sg_lt h (by decide)) h
theorem rt_1_2z : ∀ r, r < 138 → tg r = 1 → tg (rq r 2) = 9 := by decide +kernel
theorem rt_1_2 (r : Nat) (h : tg r = 1) : tg (rq r 2) = 9 := rt_1_2z r (sg_lt h (by decide)) h
theorem rt_1_3z : ∀ r, r < 138 → tg r = 1 → tg (rq r 3) = 9 := by decide +kernel
theorem rt_1_3 (r : Nat) (h : tg r = 1) : tg (rq r 3) = 9 := rt_1_3z r (sg_lt h (by decide)) h
theorem rt_1_4z : ∀ r, r < 138 → tg r = 1 → tg (rq r 4) = 9 := by decide +kernel
theorem rt_1_4 (r : Nat) (h : tg r = 1) : tg (rq r 4) = 9 := rt_1_4z r (sg_lt h (by decide)) h
theorem rt_1_5z : ∀ r, r < 138 → tg r = 1 → tg (rq r 5) = 9 := by decide +kernel
theorem rt_1_5 (r : Nat) (h : tg r = 1) : tg (rq r 5) = 9 := rt_1_5z r (sg_lt h (by decide)) h
theorem rt_1_6z : ∀ r, r < 138 → tg r = 1 → tg (rq r 6) = 9 := by decide +kernel
theorem rt_1_6 (r : Nat) (h : tg r = 1) : tg (rq r 6) = 9 := rt_1_6z r (sg_lt h (by decide)) h
theorem rt_1_7z : ∀ r, r < 138 → tg r = 1 → tg (rq r 7) = 9 := by decide +kernel
theorem rt_1_7 (r : Nat) (h : tg r = 1) : tg (rq r 7) = 9 := rt_1_7z r (sg_lt h (by decide)) h
theorem rt_1_8z : ∀ r, r < 138 → tg r = 1 → tg (rq r 8) = 9 := by decide +kernel
theorem rt_1_8 (r : Nat) (h : tg r = 1) : tg (rq r 8) = 9 := rt_1_8z r (sg_lt h (by decide)) h
theorem rt_1_9z : ∀ r, r < 138 → tg r = 1 → tg (rq r 9) = 9 := by decide +kernel
theorem rt_1_9 (r : Nat) (h : tg r = 1) : tg (rq r 9) = 9 := rt_1_9z r (sg_lt h (by decide)) h
theorem rt_1_10z : ∀ r, r < 138 → tg r = 1 → tg (rq r 10) = 9 := by decide +kernel
theorem rt_1_10 (r : Nat) (h : tg r = 1) : tg (rq r 10) = 9 := rt_1_10z r (sg_lt h (by decide)) h
def mo (i : Int32) : Nat := [50, 57, 64, 71, 78, 85].getD i.toNatClampNeg 50
theorem tg_mo (i : Int32) : tg (mo i) = 3 := by
  unfold mo
  generalize i.toNatClampNeg = k
  match k with
  | 0 => rfl
  | 1 => rfl
  | 2 => rfl
  | 3 => rfl
  | 4 => rfl
  | 5 => rfl
  | k + 6 => rfl
theorem mo_lt (i : Int32) : mo i < 2 ^ 31 := by
  have := sg_lt (tg_mo i) (by decide)
  omega
theorem mo_at {i : Int32} (h : inb i 6 = true) : ([some 50, some 57, some 64, some 71, some 78, some 85] : List (Option Nat)).getD i.toNatClampNeg none = some (mo i) := by
  have hk : i.toNatClampNeg < 6 := by
    simp only [inb, Bool.and_eq_true, decide_eq_true_eq] at h
    exact h.2
  unfold mo
  generalize i.toNatClampNeg = k at hk ⊢
  match k, hk with
  | 0, _ => rfl
  | 1, _ => rfl
  | 2, _ => rfl
  | 3, _ => rfl
  | 4, _ => rfl
  | 5, _ => rfl
theorem F_Encores_9 : FL "Encores" 9 11 12 := ⟨by decide, by decide, fl_Encores_9⟩
theorem F_Encores_16 : FL "Encores" 16 11 0 := ⟨by decide, by decide, fl_Encores_16⟩
theorem F_Encores_20 : FL "Encores" 20 11 1 := ⟨by decide, by decide, fl_Encores_20⟩
theorem F_Encores_23 : FL "Encores" 23 11 2 := ⟨by decide, by decide, fl_Encores_23⟩
theorem F_Encores_30 : FL "Encores" 30 11 3 := ⟨by decide, by decide, fl_Encores_30⟩
theorem F_Encores_37 : FL "Encores" 37 11 4 := ⟨by decide, by decide, fl_Encores_37⟩
theorem F_Encores_44 : FL "Encores" 44 11 5 := ⟨by decide, by decide, fl_Encores_44⟩
theorem F_Encores_53 : FL "Encores" 53 11 6 := ⟨by decide, by decide, fl_Encores_53⟩
theorem F_Encores_62 : FL "Encores" 62 11 7 := ⟨by decide, by decide, fl_Encores_62⟩
theorem F_Encores_71 : FL "Encores" 71 11 8 := ⟨by decide, by decide, fl_Encores_71⟩
theorem F_Encores_80 : FL "Encores" 80 11 9 := ⟨by decide, by decide, fl_Encores_80⟩
theorem F_Encores_87 : FL "Encores" 87 11 10 := ⟨by decide, by decide, fl_Encores_87⟩
theorem F_Encores_94 : FL "Encores" 94 11 11 := ⟨by decide, by decide, fl_Encores_94⟩
theorem F_Encores_113 : FL "Encores" 113 1 0 := ⟨by decide, by decide, fl_Encores_113⟩
theorem F_Encores_117 : FL "Encores" 117 9 3 := ⟨by decide, by decide, fl_Encores_117⟩
theorem F_Encores_131 : FL "Encores" 131 1 1 := ⟨by decide, by decide, fl_Encores_131⟩
theorem F_Encores_175 : FL "Encores" 175 10 2 := ⟨by decide, by decide, fl_Encores_175⟩
theorem F_Encores_181 : FL "Encores" 181 6 3 := ⟨by decide, by decide, fl_Encores_181⟩
theorem F_Encores_184 : FL "Encores" 184 6 1 := ⟨by decide, by decide, fl_Encores_184⟩
theorem F_Encores_186 : FL "Encores" 186 6 2 := ⟨by decide, by decide, fl_Encores_186⟩
theorem F_Encores_193 : FL "Encores" 193 6 4 := ⟨by decide, by decide, fl_Encores_193⟩
theorem F_Encores_212 : FL "Encores" 212 1 3 := ⟨by decide, by decide, fl_Encores_212⟩
theorem F_Encores_218 : FL "Encores" 218 1 4 := ⟨by decide, by decide, fl_Encores_218⟩
theorem F_Encores_221 : FL "Encores" 221 1 6 := ⟨by decide, by decide, fl_Encores_221⟩
theorem F_Encores_224 : FL "Encores" 224 1 7 := ⟨by decide, by decide, fl_Encores_224⟩
theorem F_Encores_226 : FL "Encores" 226 1 8 := ⟨by decide, by decide, fl_Encores_226⟩
theorem F_Encores_229 : FL "Encores" 229 1 9 := ⟨by decide, by decide, fl_Encores_229⟩
theorem F_Encores_232 : FL "Encores" 232 4 2 := ⟨by decide, by decide, fl_Encores_232⟩
theorem F_Encores_237 : FL "Encores" 237 8 4 := ⟨by decide, by decide, fl_Encores_237⟩
theorem F_Encores_246 : FL "Encores" 246 8 5 := ⟨by decide, by decide, fl_Encores_246⟩
theorem F_Encores_249 : FL "Encores" 249 8 6 := ⟨by decide, by decide, fl_Encores_249⟩
theorem F_Encores_335 : FL "Encores" 335 1 10 := ⟨by decide, by decide, fl_Encores_335⟩
theorem F_Encores_Fewest_14 : FL "Encores$Fewest" 14 0 3 := ⟨by decide, by decide, fl_Encores_Fewest_14⟩
theorem F_Encores_Fewest_20 : FL "Encores$Fewest" 20 0 4 := ⟨by decide, by decide, fl_Encores_Fewest_20⟩
theorem F_Encores_Fewest_23 : FL "Encores$Fewest" 23 0 0 := ⟨by decide, by decide, fl_Encores_Fewest_23⟩
theorem F_Encores_Fewest_27 : FL "Encores$Fewest" 27 0 1 := ⟨by decide, by decide, fl_Encores_Fewest_27⟩
theorem F_Encores_Fewest_31 : FL "Encores$Fewest" 31 0 2 := ⟨by decide, by decide, fl_Encores_Fewest_31⟩
theorem F_Encores_Fewest_35 : FL "Encores$Fewest" 35 9 3 := ⟨by decide, by decide, fl_Encores_Fewest_35⟩
theorem F_Encores_Fewest_39 : FL "Encores$Fewest" 39 0 5 := ⟨by decide, by decide, fl_Encores_Fewest_39⟩
theorem F_Encores_Fewest_42 : FL "Encores$Fewest" 42 0 6 := ⟨by decide, by decide, fl_Encores_Fewest_42⟩
theorem F_Encores_Fewest_83 : FL "Encores$Fewest" 83 1 0 := ⟨by decide, by decide, fl_Encores_Fewest_83⟩
theorem F_Encores_House_14 : FL "Encores$House" 14 1 0 := ⟨by decide, by decide, fl_Encores_House_14⟩
theorem F_Encores_House_20 : FL "Encores$House" 20 1 1 := ⟨by decide, by decide, fl_Encores_House_20⟩
theorem F_Encores_House_23 : FL "Encores$House" 23 1 2 := ⟨by decide, by decide, fl_Encores_House_23⟩
theorem F_Encores_House_26 : FL "Encores$House" 26 1 3 := ⟨by decide, by decide, fl_Encores_House_26⟩
theorem F_Encores_House_29 : FL "Encores$House" 29 1 4 := ⟨by decide, by decide, fl_Encores_House_29⟩
theorem F_Encores_House_32 : FL "Encores$House" 32 1 5 := ⟨by decide, by decide, fl_Encores_House_32⟩
theorem F_Encores_House_35 : FL "Encores$House" 35 1 6 := ⟨by decide, by decide, fl_Encores_House_35⟩
theorem F_Encores_House_38 : FL "Encores$House" 38 1 7 := ⟨by decide, by decide, fl_Encores_House_38⟩
theorem F_Encores_House_41 : FL "Encores$House" 41 1 8 := ⟨by decide, by decide, fl_Encores_House_41⟩
theorem F_Encores_House_44 : FL "Encores$House" 44 1 9 := ⟨by decide, by decide, fl_Encores_House_44⟩
theorem F_Encores_House_47 : FL "Encores$House" 47 1 10 := ⟨by decide, by decide, fl_Encores_House_47⟩
theorem F_Encores_House_66 : FL "Encores$House" 66 9 3 := ⟨by decide, by decide, fl_Encores_House_66⟩
theorem F_Encores_Law_9 : FL "Encores$Law" 9 2 1 := ⟨by decide, by decide, fl_Encores_Law_9⟩
theorem F_Encores_Law_15 : FL "Encores$Law" 15 2 2 := ⟨by decide, by decide, fl_Encores_Law_15⟩
theorem F_Encores_Law_18 : FL "Encores$Law" 18 2 0 := ⟨by decide, by decide, fl_Encores_Law_18⟩
theorem F_Encores_Law_34 : FL "Encores$Law" 34 1 0 := ⟨by decide, by decide, fl_Encores_Law_34⟩
theorem F_Encores_Law_50 : FL "Encores$Law" 50 1 1 := ⟨by decide, by decide, fl_Encores_Law_50⟩
theorem F_Encores_Law_53 : FL "Encores$Law" 53 1 2 := ⟨by decide, by decide, fl_Encores_Law_53⟩
theorem F_Encores_Law_56 : FL "Encores$Law" 56 1 4 := ⟨by decide, by decide, fl_Encores_Law_56⟩
theorem F_Encores_Law_59 : FL "Encores$Law" 59 9 3 := ⟨by decide, by decide, fl_Encores_Law_59⟩
theorem F_Encores_Law_80 : FL "Encores$Law" 80 1 5 := ⟨by decide, by decide, fl_Encores_Law_80⟩
theorem F_Encores_Moment_14 : FL "Encores$Moment" 14 3 0 := ⟨by decide, by decide, fl_Encores_Moment_14⟩
theorem F_Encores_Moment_20 : FL "Encores$Moment" 20 3 1 := ⟨by decide, by decide, fl_Encores_Moment_20⟩
theorem F_Encores_Moment_23 : FL "Encores$Moment" 23 3 2 := ⟨by decide, by decide, fl_Encores_Moment_23⟩
theorem F_Encores_Moment_26 : FL "Encores$Moment" 26 1 0 := ⟨by decide, by decide, fl_Encores_Moment_26⟩
theorem F_Encores_Moment_33 : FL "Encores$Moment" 33 1 1 := ⟨by decide, by decide, fl_Encores_Moment_33⟩
theorem F_Encores_Moment_34 : FL "Encores$Moment" 34 1 2 := ⟨by decide, by decide, fl_Encores_Moment_34⟩
theorem F_Encores_Moment_35 : FL "Encores$Moment" 35 1 3 := ⟨by decide, by decide, fl_Encores_Moment_35⟩
theorem F_Encores_Moment_38 : FL "Encores$Moment" 38 9 3 := ⟨by decide, by decide, fl_Encores_Moment_38⟩
theorem F_Encores_Moment_42 : FL "Encores$Moment" 42 3 3 := ⟨by decide, by decide, fl_Encores_Moment_42⟩
theorem F_Encores_Past_11 : FL "Encores$Past" 11 4 0 := ⟨by decide, by decide, fl_Encores_Past_11⟩
theorem F_Encores_Past_18 : FL "Encores$Past" 18 4 1 := ⟨by decide, by decide, fl_Encores_Past_18⟩
theorem F_Encores_Past_30 : FL "Encores$Past" 30 4 2 := ⟨by decide, by decide, fl_Encores_Past_30⟩
theorem F_Encores_Programme_9 : FL "Encores$Programme" 9 5 0 := ⟨by decide, by decide, fl_Encores_Programme_9⟩
theorem F_Encores_Programme_15 : FL "Encores$Programme" 15 1 1 := ⟨by decide, by decide, fl_Encores_Programme_15⟩
theorem F_Encores_Programme_21 : FL "Encores$Programme" 21 9 3 := ⟨by decide, by decide, fl_Encores_Programme_21⟩
theorem F_Encores_Reader_14 : FL "Encores$Reader" 14 6 1 := ⟨by decide, by decide, fl_Encores_Reader_14⟩
theorem F_Encores_Reader_20 : FL "Encores$Reader" 20 6 2 := ⟨by decide, by decide, fl_Encores_Reader_20⟩
theorem F_Encores_Reader_23 : FL "Encores$Reader" 23 6 5 := ⟨by decide, by decide, fl_Encores_Reader_23⟩
theorem F_Encores_Reader_26 : FL "Encores$Reader" 26 6 0 := ⟨by decide, by decide, fl_Encores_Reader_26⟩
theorem F_Encores_Reader_30 : FL "Encores$Reader" 30 6 3 := ⟨by decide, by decide, fl_Encores_Reader_30⟩
theorem F_Encores_Reader_34 : FL "Encores$Reader" 34 6 4 := ⟨by decide, by decide, fl_Encores_Reader_34⟩
theorem F_Encores_Reader_37 : FL "Encores$Reader" 37 9 3 := ⟨by decide, by decide, fl_Encores_Reader_37⟩
theorem F_Encores_Reader_39 : FL "Encores$Reader" 39 6 10 := ⟨by decide, by decide, fl_Encores_Reader_39⟩
theorem F_Encores_Reader_42 : FL "Encores$Reader" 42 6 11 := ⟨by decide, by decide, fl_Encores_Reader_42⟩
theorem F_Encores_Reader_54 : FL "Encores$Reader" 54 10 3 := ⟨by decide, by decide, fl_Encores_Reader_54⟩
theorem F_Encores_Reader_68 : FL "Encores$Reader" 68 6 9 := ⟨by decide, by decide, fl_Encores_Reader_68⟩
theorem F_Encores_Reader_95 : FL "Encores$Reader" 95 10 5 := ⟨by decide, by decide, fl_Encores_Reader_95⟩
theorem F_Encores_Reader_101 : FL "Encores$Reader" 101 10 4 := ⟨by decide, by decide, fl_Encores_Reader_101⟩
theorem F_Encores_Reader_104 : FL "Encores$Reader" 104 6 6 := ⟨by decide, by decide, fl_Encores_Reader_104⟩
theorem F_Encores_Reader_107 : FL "Encores$Reader" 107 6 7 := ⟨by decide, by decide, fl_Encores_Reader_107⟩
theorem F_Encores_Reader_110 : FL "Encores$Reader" 110 6 8 := ⟨by decide, by decide, fl_Encores_Reader_110⟩
theorem F_Encores_Seats_9 : FL "Encores$Seats" 9 7 0 := ⟨by decide, by decide, fl_Encores_Seats_9⟩
theorem F_Encores_Seats_15 : FL "Encores$Seats" 15 1 0 := ⟨by decide, by decide, fl_Encores_Seats_15⟩
theorem F_Encores_Seats_21 : FL "Encores$Seats" 21 9 3 := ⟨by decide, by decide, fl_Encores_Seats_21⟩
theorem F_Encores_Stage_9 : FL "Encores$Stage" 9 8 2 := ⟨by decide, by decide, fl_Encores_Stage_9⟩
theorem F_Encores_Stage_15 : FL "Encores$Stage" 15 8 3 := ⟨by decide, by decide, fl_Encores_Stage_15⟩
theorem F_Encores_Stage_18 : FL "Encores$Stage" 18 8 0 := ⟨by decide, by decide, fl_Encores_Stage_18⟩
theorem F_Encores_Stage_22 : FL "Encores$Stage" 22 8 1 := ⟨by decide, by decide, fl_Encores_Stage_22⟩
theorem F_Encores_Stage_32 : FL "Encores$Stage" 32 1 7 := ⟨by decide, by decide, fl_Encores_Stage_32⟩
theorem F_Encores_Stage_36 : FL "Encores$Stage" 36 9 3 := ⟨by decide, by decide, fl_Encores_Stage_36⟩
theorem F_Encores_Stage_94 : FL "Encores$Stage" 94 1 1 := ⟨by decide, by decide, fl_Encores_Stage_94⟩
theorem F_Encores_Stage_106 : FL "Encores$Stage" 106 1 0 := ⟨by decide, by decide, fl_Encores_Stage_106⟩
theorem F_Encores_Stage_109 : FL "Encores$Stage" 109 8 4 := ⟨by decide, by decide, fl_Encores_Stage_109⟩
theorem F_Encores_Stage_116 : FL "Encores$Stage" 116 8 5 := ⟨by decide, by decide, fl_Encores_Stage_116⟩
theorem F_Encores_Stage_119 : FL "Encores$Stage" 119 8 6 := ⟨by decide, by decide, fl_Encores_Stage_119⟩
theorem F_Encores_Table_15 : FL "Encores$Table" 15 9 1 := ⟨by decide, by decide, fl_Encores_Table_15⟩
theorem F_Encores_Table_21 : FL "Encores$Table" 21 9 2 := ⟨by decide, by decide, fl_Encores_Table_21⟩
theorem F_Encores_Table_24 : FL "Encores$Table" 24 9 0 := ⟨by decide, by decide, fl_Encores_Table_24⟩
theorem F_Encores_Table_28 : FL "Encores$Table" 28 9 3 := ⟨by decide, by decide, fl_Encores_Table_28⟩
theorem F_Encores_Tape_9 : FL "Encores$Tape" 9 10 0 := ⟨by decide, by decide, fl_Encores_Tape_9⟩
theorem F_Encores_Tape_20 : FL "Encores$Tape" 20 10 1 := ⟨by decide, by decide, fl_Encores_Tape_20⟩
theorem F_Encores_Tape_24 : FL "Encores$Tape" 24 10 2 := ⟨by decide, by decide, fl_Encores_Tape_24⟩
theorem F_Encores_Tape_28 : FL "Encores$Tape" 28 9 3 := ⟨by decide, by decide, fl_Encores_Tape_28⟩
theorem F_Encores_Tape_46 : FL "Encores$Tape" 46 10 6 := ⟨by decide, by decide, fl_Encores_Tape_46⟩
theorem F_Encores_Tape_56 : FL "Encores$Tape" 56 10 3 := ⟨by decide, by decide, fl_Encores_Tape_56⟩
theorem F_Encores_Tape_59 : FL "Encores$Tape" 59 10 4 := ⟨by decide, by decide, fl_Encores_Tape_59⟩
theorem F_Encores_Tape_62 : FL "Encores$Tape" 62 10 5 := ⟨by decide, by decide, fl_Encores_Tape_62⟩
theorem F_EncoresModel_7 : FL "EncoresModel" 7 12 0 := ⟨by decide, by decide, fl_EncoresModel_7⟩
theorem F_EncoresModel_13 : FL "EncoresModel" 13 12 1 := ⟨by decide, by decide, fl_EncoresModel_13⟩
theorem F_EncoresModel_16 : FL "EncoresModel" 16 12 2 := ⟨by decide, by decide, fl_EncoresModel_16⟩
theorem F_EncoresModel_19 : FL "EncoresModel" 19 12 3 := ⟨by decide, by decide, fl_EncoresModel_19⟩
theorem F_EncoresModel_22 : FL "EncoresModel" 22 12 6 := ⟨by decide, by decide, fl_EncoresModel_22⟩
theorem F_EncoresModel_25 : FL "EncoresModel" 25 12 7 := ⟨by decide, by decide, fl_EncoresModel_25⟩
theorem F_EncoresModel_28 : FL "EncoresModel" 28 12 8 := ⟨by decide, by decide, fl_EncoresModel_28⟩
theorem F_EncoresModel_31 : FL "EncoresModel" 31 12 9 := ⟨by decide, by decide, fl_EncoresModel_31⟩
theorem F_EncoresModel_34 : FL "EncoresModel" 34 12 10 := ⟨by decide, by decide, fl_EncoresModel_34⟩
theorem F_EncoresModel_37 : FL "EncoresModel" 37 12 11 := ⟨by decide, by decide, fl_EncoresModel_37⟩
theorem F_EncoresModel_40 : FL "EncoresModel" 40 12 25 := ⟨by decide, by decide, fl_EncoresModel_40⟩
theorem F_EncoresModel_44 : FL "EncoresModel" 44 12 27 := ⟨by decide, by decide, fl_EncoresModel_44⟩
theorem F_EncoresModel_47 : FL "EncoresModel" 47 12 32 := ⟨by decide, by decide, fl_EncoresModel_47⟩
theorem F_EncoresModel_50 : FL "EncoresModel" 50 12 33 := ⟨by decide, by decide, fl_EncoresModel_50⟩
theorem F_EncoresModel_53 : FL "EncoresModel" 53 12 34 := ⟨by decide, by decide, fl_EncoresModel_53⟩
theorem F_EncoresModel_60 : FL "EncoresModel" 60 12 4 := ⟨by decide, by decide, fl_EncoresModel_60⟩
theorem F_EncoresModel_78 : FL "EncoresModel" 78 12 16 := ⟨by decide, by decide, fl_EncoresModel_78⟩
theorem F_EncoresModel_81 : FL "EncoresModel" 81 12 17 := ⟨by decide, by decide, fl_EncoresModel_81⟩
theorem F_EncoresModel_84 : FL "EncoresModel" 84 12 19 := ⟨by decide, by decide, fl_EncoresModel_84⟩
theorem F_EncoresModel_146 : FL "EncoresModel" 146 12 12 := ⟨by decide, by decide, fl_EncoresModel_146⟩
theorem F_EncoresModel_162 : FL "EncoresModel" 162 12 18 := ⟨by decide, by decide, fl_EncoresModel_162⟩
theorem F_EncoresModel_174 : FL "EncoresModel" 174 12 20 := ⟨by decide, by decide, fl_EncoresModel_174⟩
theorem F_EncoresModel_177 : FL "EncoresModel" 177 12 21 := ⟨by decide, by decide, fl_EncoresModel_177⟩
theorem F_EncoresModel_180 : FL "EncoresModel" 180 12 22 := ⟨by decide, by decide, fl_EncoresModel_180⟩
theorem F_EncoresModel_189 : FL "EncoresModel" 189 12 14 := ⟨by decide, by decide, fl_EncoresModel_189⟩
theorem F_EncoresModel_192 : FL "EncoresModel" 192 12 24 := ⟨by decide, by decide, fl_EncoresModel_192⟩
theorem F_EncoresModel_224 : FL "EncoresModel" 224 12 13 := ⟨by decide, by decide, fl_EncoresModel_224⟩
theorem F_EncoresModel_233 : FL "EncoresModel" 233 12 15 := ⟨by decide, by decide, fl_EncoresModel_233⟩
theorem F_EncoresModel_265 : FL "EncoresModel" 265 12 23 := ⟨by decide, by decide, fl_EncoresModel_265⟩
theorem F_EncoresModel_303 : FL "EncoresModel" 303 12 26 := ⟨by decide, by decide, fl_EncoresModel_303⟩
theorem F_EncoresModel_316 : FL "EncoresModel" 316 12 28 := ⟨by decide, by decide, fl_EncoresModel_316⟩
theorem F_EncoresModel_331 : FL "EncoresModel" 331 12 29 := ⟨by decide, by decide, fl_EncoresModel_331⟩
theorem F_EncoresModel_347 : FL "EncoresModel" 347 12 30 := ⟨by decide, by decide, fl_EncoresModel_347⟩
theorem F_EncoresModel_358 : FL "EncoresModel" 358 12 31 := ⟨by decide, by decide, fl_EncoresModel_358⟩
theorem F_EncoresModel_437 : FL "EncoresModel" 437 12 5 := ⟨by decide, by decide, fl_EncoresModel_437⟩
theorem pZ_0_0 : parseFieldDescriptor ((vwC 0).2.1 0).2.2.1 = some (.object "Encores$House") := by decide +kernel
theorem pZ_0_1 : parseFieldDescriptor ((vwC 0).2.1 1).2.2.1 = some (.object "Encores$Law") := by decide +kernel
theorem pZ_0_2 : parseFieldDescriptor ((vwC 0).2.1 2).2.2.1 = some (.object "Encores$Stage") := by decide +kernel
theorem pZ_0_3 : parseFieldDescriptor ((vwC 0).2.1 3).2.2.1 = some (.object "Encores$Table") := by decide +kernel
theorem pZ_0_4 : parseFieldDescriptor ((vwC 0).2.1 4).2.2.1 = some (.object "Encores$Table") := by decide +kernel
theorem pZ_0_5 : parseFieldDescriptor ((vwC 0).2.1 5).2.2.1 = some .int := by decide +kernel
theorem pZ_0_6 : parseFieldDescriptor ((vwC 0).2.1 6).2.2.1 = some .boolean := by decide +kernel
theorem pZ_1_0 : parseFieldDescriptor ((vwC 1).2.1 0).2.2.1 = some (.object "Encores$Table") := by decide +kernel
theorem pZ_1_1 : parseFieldDescriptor ((vwC 1).2.1 1).2.2.1 = some (.object "Encores$Table") := by decide +kernel
theorem pZ_1_2 : parseFieldDescriptor ((vwC 1).2.1 2).2.2.1 = some (.object "Encores$Table") := by decide +kernel
theorem pZ_1_3 : parseFieldDescriptor ((vwC 1).2.1 3).2.2.1 = some (.object "Encores$Table") := by decide +kernel
theorem pZ_1_4 : parseFieldDescriptor ((vwC 1).2.1 4).2.2.1 = some (.object "Encores$Table") := by decide +kernel
theorem pZ_1_5 : parseFieldDescriptor ((vwC 1).2.1 5).2.2.1 = some (.object "Encores$Table") := by decide +kernel
theorem pZ_1_6 : parseFieldDescriptor ((vwC 1).2.1 6).2.2.1 = some (.object "Encores$Table") := by decide +kernel
theorem pZ_1_7 : parseFieldDescriptor ((vwC 1).2.1 7).2.2.1 = some (.object "Encores$Table") := by decide +kernel
theorem pZ_1_8 : parseFieldDescriptor ((vwC 1).2.1 8).2.2.1 = some (.object "Encores$Table") := by decide +kernel
theorem pZ_1_9 : parseFieldDescriptor ((vwC 1).2.1 9).2.2.1 = some (.object "Encores$Table") := by decide +kernel
theorem pZ_1_10 : parseFieldDescriptor ((vwC 1).2.1 10).2.2.1 = some (.object "Encores$Table") := by decide +kernel
theorem pZ_2_0 : parseFieldDescriptor ((vwC 2).2.1 0).2.2.1 = some (.object "Encores$House") := by decide +kernel
theorem pZ_2_1 : parseFieldDescriptor ((vwC 2).2.1 1).2.2.1 = some (.array .int) := by decide +kernel
theorem pZ_2_2 : parseFieldDescriptor ((vwC 2).2.1 2).2.2.1 = some (.array .int) := by decide +kernel
theorem pZ_3_0 : parseFieldDescriptor ((vwC 3).2.1 0).2.2.1 = some (.object "Encores$Table") := by decide +kernel
theorem pZ_3_1 : parseFieldDescriptor ((vwC 3).2.1 1).2.2.1 = some (.object "Encores$Table") := by decide +kernel
theorem pZ_3_2 : parseFieldDescriptor ((vwC 3).2.1 2).2.2.1 = some (.object "Encores$Table") := by decide +kernel
theorem pZ_3_3 : parseFieldDescriptor ((vwC 3).2.1 3).2.2.1 = some .int := by decide +kernel
theorem pZ_4_0 : parseFieldDescriptor ((vwC 4).2.1 0).2.2.1 = some (.array (.object "Encores$Moment")) := by decide +kernel
theorem pZ_4_1 : parseFieldDescriptor ((vwC 4).2.1 1).2.2.1 = some .int := by decide +kernel
theorem pZ_4_2 : parseFieldDescriptor ((vwC 4).2.1 2).2.2.1 = some .int := by decide +kernel
theorem pZ_5_0 : parseFieldDescriptor ((vwC 5).2.1 0).2.2.1 = some (.object "Encores$House") := by decide +kernel
theorem pZ_6_0 : parseFieldDescriptor ((vwC 6).2.1 0).2.2.1 = some (.object "Encores$Tape") := by decide +kernel
theorem pZ_6_1 : parseFieldDescriptor ((vwC 6).2.1 1).2.2.1 = some (.object "Encores$Table") := by decide +kernel
theorem pZ_6_2 : parseFieldDescriptor ((vwC 6).2.1 2).2.2.1 = some (.object "Encores$Table") := by decide +kernel
theorem pZ_6_3 : parseFieldDescriptor ((vwC 6).2.1 3).2.2.1 = some .int := by decide +kernel
theorem pZ_6_4 : parseFieldDescriptor ((vwC 6).2.1 4).2.2.1 = some .int := by decide +kernel
theorem pZ_6_5 : parseFieldDescriptor ((vwC 6).2.1 5).2.2.1 = some (.object "Encores$Table") := by decide +kernel
theorem pZ_6_6 : parseFieldDescriptor ((vwC 6).2.1 6).2.2.1 = some .int := by decide +kernel
theorem pZ_6_7 : parseFieldDescriptor ((vwC 6).2.1 7).2.2.1 = some .int := by decide +kernel
theorem pZ_6_8 : parseFieldDescriptor ((vwC 6).2.1 8).2.2.1 = some .int := by decide +kernel
theorem pZ_6_9 : parseFieldDescriptor ((vwC 6).2.1 9).2.2.1 = some .int := by decide +kernel
theorem pZ_6_10 : parseFieldDescriptor ((vwC 6).2.1 10).2.2.1 = some .int := by decide +kernel
theorem pZ_6_11 : parseFieldDescriptor ((vwC 6).2.1 11).2.2.1 = some .int := by decide +kernel
theorem pZ_7_0 : parseFieldDescriptor ((vwC 7).2.1 0).2.2.1 = some (.object "Encores$House") := by decide +kernel
theorem pZ_8_0 : parseFieldDescriptor ((vwC 8).2.1 0).2.2.1 = some (.object "Encores$House") := by decide +kernel
theorem pZ_8_1 : parseFieldDescriptor ((vwC 8).2.1 1).2.2.1 = some (.object "Encores$Law") := by decide +kernel
theorem pZ_8_2 : parseFieldDescriptor ((vwC 8).2.1 2).2.2.1 = some (.array .int) := by decide +kernel
theorem pZ_8_3 : parseFieldDescriptor ((vwC 8).2.1 3).2.2.1 = some (.array .int) := by decide +kernel
theorem pZ_8_4 : parseFieldDescriptor ((vwC 8).2.1 4).2.2.1 = some .boolean := by decide +kernel
theorem pZ_8_5 : parseFieldDescriptor ((vwC 8).2.1 5).2.2.1 = some .int := by decide +kernel
theorem pZ_8_6 : parseFieldDescriptor ((vwC 8).2.1 6).2.2.1 = some .int := by decide +kernel
theorem pZ_9_0 : parseFieldDescriptor ((vwC 9).2.1 0).2.2.1 = some (.array .int) := by decide +kernel
theorem pZ_9_1 : parseFieldDescriptor ((vwC 9).2.1 1).2.2.1 = some .int := by decide +kernel
theorem pZ_9_2 : parseFieldDescriptor ((vwC 9).2.1 2).2.2.1 = some .int := by decide +kernel
theorem pZ_9_3 : parseFieldDescriptor ((vwC 9).2.1 3).2.2.1 = some .int := by decide +kernel
theorem pZ_10_0 : parseFieldDescriptor ((vwC 10).2.1 0).2.2.1 = some (.array .int) := by decide +kernel
theorem pZ_10_1 : parseFieldDescriptor ((vwC 10).2.1 1).2.2.1 = some (.object "Encores$Table") := by decide +kernel
theorem pZ_10_2 : parseFieldDescriptor ((vwC 10).2.1 2).2.2.1 = some .int := by decide +kernel
theorem pZ_10_3 : parseFieldDescriptor ((vwC 10).2.1 3).2.2.1 = some .int := by decide +kernel
theorem pZ_10_4 : parseFieldDescriptor ((vwC 10).2.1 4).2.2.1 = some .int := by decide +kernel
theorem pZ_10_5 : parseFieldDescriptor ((vwC 10).2.1 5).2.2.1 = some .int := by decide +kernel
theorem pZ_10_6 : parseFieldDescriptor ((vwC 10).2.1 6).2.2.1 = some .int := by decide +kernel
theorem pZ_11_0 : parseFieldDescriptor ((vwC 11).2.1 0).2.2.1 = some (.object "Encores$House") := by decide +kernel
theorem pZ_11_1 : parseFieldDescriptor ((vwC 11).2.1 1).2.2.1 = some (.object "Encores$House") := by decide +kernel
theorem pZ_11_2 : parseFieldDescriptor ((vwC 11).2.1 2).2.2.1 = some .boolean := by decide +kernel
theorem pZ_11_3 : parseFieldDescriptor ((vwC 11).2.1 3).2.2.1 = some (.object "Encores$Past") := by decide +kernel
theorem pZ_11_4 : parseFieldDescriptor ((vwC 11).2.1 4).2.2.1 = some (.object "Encores$Moment") := by decide +kernel
theorem pZ_11_5 : parseFieldDescriptor ((vwC 11).2.1 5).2.2.1 = some (.object "Encores$Tape") := by decide +kernel
theorem pZ_11_6 : parseFieldDescriptor ((vwC 11).2.1 6).2.2.1 = some (.object "Encores$Reader") := by decide +kernel
theorem pZ_11_7 : parseFieldDescriptor ((vwC 11).2.1 7).2.2.1 = some (.object "Encores$Law") := by decide +kernel
theorem pZ_11_8 : parseFieldDescriptor ((vwC 11).2.1 8).2.2.1 = some (.object "Encores$Stage") := by decide +kernel
theorem pZ_11_9 : parseFieldDescriptor ((vwC 11).2.1 9).2.2.1 = some (.object "Encores$Fewest") := by decide +kernel
theorem pZ_11_10 : parseFieldDescriptor ((vwC 11).2.1 10).2.2.1 = some (.object "Encores$Seats") := by decide +kernel
theorem pZ_11_11 : parseFieldDescriptor ((vwC 11).2.1 11).2.2.1 = some (.object "Encores$Programme") := by decide +kernel
theorem pZ_11_12 : parseFieldDescriptor ((vwC 11).2.1 12).2.2.1 = some (.array .int) := by decide +kernel
theorem pZ_12_0 : parseFieldDescriptor ((vwC 12).2.1 0).2.2.1 = some (.array .int) := by decide +kernel
theorem pZ_12_1 : parseFieldDescriptor ((vwC 12).2.1 1).2.2.1 = some (.array .int) := by decide +kernel
theorem pZ_12_2 : parseFieldDescriptor ((vwC 12).2.1 2).2.2.1 = some (.array .int) := by decide +kernel
theorem pZ_12_3 : parseFieldDescriptor ((vwC 12).2.1 3).2.2.1 = some (.array .int) := by decide +kernel
theorem pZ_12_4 : parseFieldDescriptor ((vwC 12).2.1 4).2.2.1 = some .int := by decide +kernel
theorem pZ_12_5 : parseFieldDescriptor ((vwC 12).2.1 5).2.2.1 = some .boolean := by decide +kernel
theorem pZ_12_6 : parseFieldDescriptor ((vwC 12).2.1 6).2.2.1 = some (.array .int) := by decide +kernel
theorem pZ_12_7 : parseFieldDescriptor ((vwC 12).2.1 7).2.2.1 = some (.array .int) := by decide +kernel
theorem pZ_12_8 : parseFieldDescriptor ((vwC 12).2.1 8).2.2.1 = some (.array .int) := by decide +kernel
theorem pZ_12_9 : parseFieldDescriptor ((vwC 12).2.1 9).2.2.1 = some (.array .int) := by decide +kernel
theorem pZ_12_10 : parseFieldDescriptor ((vwC 12).2.1 10).2.2.1 = some (.array .int) := by decide +kernel
theorem pZ_12_11 : parseFieldDescriptor ((vwC 12).2.1 11).2.2.1 = some (.array .int) := by decide +kernel
theorem pZ_12_12 : parseFieldDescriptor ((vwC 12).2.1 12).2.2.1 = some .int := by decide +kernel
theorem pZ_12_13 : parseFieldDescriptor ((vwC 12).2.1 13).2.2.1 = some .int := by decide +kernel
theorem pZ_12_14 : parseFieldDescriptor ((vwC 12).2.1 14).2.2.1 = some .int := by decide +kernel
theorem pZ_12_15 : parseFieldDescriptor ((vwC 12).2.1 15).2.2.1 = some .int := by decide +kernel
theorem pZ_12_16 : parseFieldDescriptor ((vwC 12).2.1 16).2.2.1 = some .int := by decide +kernel
theorem pZ_12_17 : parseFieldDescriptor ((vwC 12).2.1 17).2.2.1 = some .int := by decide +kernel
theorem pZ_12_18 : parseFieldDescriptor ((vwC 12).2.1 18).2.2.1 = some .int := by decide +kernel
theorem pZ_12_19 : parseFieldDescriptor ((vwC 12).2.1 19).2.2.1 = some .int := by decide +kernel
theorem pZ_12_20 : parseFieldDescriptor ((vwC 12).2.1 20).2.2.1 = some .int := by decide +kernel
theorem pZ_12_21 : parseFieldDescriptor ((vwC 12).2.1 21).2.2.1 = some .int := by decide +kernel
theorem pZ_12_22 : parseFieldDescriptor ((vwC 12).2.1 22).2.2.1 = some .int := by decide +kernel
theorem pZ_12_23 : parseFieldDescriptor ((vwC 12).2.1 23).2.2.1 = some .int := by decide +kernel
theorem pZ_12_24 : parseFieldDescriptor ((vwC 12).2.1 24).2.2.1 = some .int := by decide +kernel
theorem pZ_12_25 : parseFieldDescriptor ((vwC 12).2.1 25).2.2.1 = some .int := by decide +kernel
theorem pZ_12_26 : parseFieldDescriptor ((vwC 12).2.1 26).2.2.1 = some .boolean := by decide +kernel
theorem pZ_12_27 : parseFieldDescriptor ((vwC 12).2.1 27).2.2.1 = some (.array .int) := by decide +kernel
theorem pZ_12_28 : parseFieldDescriptor ((vwC 12).2.1 28).2.2.1 = some .int := by decide +kernel
theorem pZ_12_29 : parseFieldDescriptor ((vwC 12).2.1 29).2.2.1 = some .int := by decide +kernel
theorem pZ_12_30 : parseFieldDescriptor ((vwC 12).2.1 30).2.2.1 = some .int := by decide +kernel
theorem pZ_12_31 : parseFieldDescriptor ((vwC 12).2.1 31).2.2.1 = some .boolean := by decide +kernel
theorem pZ_12_32 : parseFieldDescriptor ((vwC 12).2.1 32).2.2.1 = some (.array .int) := by decide +kernel
theorem pZ_12_33 : parseFieldDescriptor ((vwC 12).2.1 33).2.2.1 = some (.array .int) := by decide +kernel
theorem pZ_12_34 : parseFieldDescriptor ((vwC 12).2.1 34).2.2.1 = some (.array .int) := by decide +kernel
/-! texts -/
def sN (r : Nat) : Nat := strLen.getD (r - 1000) 0
def sL (r : Nat) : Int32 := Int32.ofNat (sN r)
def sC (r : Nat) (i : Int32) : Int32 := (strByt.getD (r - 1000) []).getD i.toNatClampNeg 0
section STR
variable {Sh' Sh Sh1 : List SE} {d : Nat} {M M' : MD} {pc : Nat} {L : List (Option Value)} {st st0 : List Value} {μ : Mem} {x y : Ans} {f : Int32 → Mem → Ans} {own : String} {idx np r : Nat} {i : Int32}
theorem Ok.goZ {n : Nat} {st' : List Value} (g : ∀ {p : Program} {l : Launch} {e : Env} {R : Room} {s : State} {m : MethodId} {args : Array Value} {below : List Frame} {meth : Method} {c : Code} {H : Heap} {locs : List Loc} {cells slots : Nat} {Q : State → Prop} {D : va_G} {σ : Nat → Nat} {A : Nat → Prop} {ls : Array Slot},
    Ctx M p s m args meth c D σ → Zs σ A s s.heap → va_S A s.heap H locs → W p l e R s m args below meth c H locs cells slots Q (F0 m n ls (st'.map (av σ))) → W p l e R s m args below meth c H locs cells slots Q (F0 m pc ls (st.map (av σ))))
    (k : Ok Sh' d M n L st' Sh μ x) : Ok Sh' d M pc L st Sh μ x := by
  intro v μ' hx p l e R s m args below meth c H locs cells slots Q D σ A mc ms ls C Z hA hR hP hD hS hL h1 h2 hQ
  exact g C Z hS (k v μ' hx p l e R s m args below meth c H locs cells slots Q D σ A mc ms ls C Z hA hR hP hD hS hL h1 h2 hQ)
theorem str_of (hr : 1000 ≤ r ∧ r < 1000 + strN) : ∃ k, k < strN ∧ r = 1000 + k := ⟨r - 1000, by omega, by omega⟩
theorem ok_ldcS (n k : Nat) {q : String × Nat × String} (hd : decode M.1 pc = .ok (.ldc idx, 2)) (hp : pc + 2 = n) (hk : strL[k]? = some q) (hq : (q.1, q.2.1) = (M.2.1.cls, idx)) (kk : Ok Sh' d M n L (.ref (1000 + k) :: st) Sh μ x) : Ok Sh' d M pc L st Sh μ x := by
  subst hp
  refine Ok.goZ (fun {_ _ _ _ _ _ _ _ _ _ _ _ _ _ _ _ σ _ _} C Z hS k1 => ?_) kk
  have h1 : q.1 = M.2.1.cls := congrArg Prod.fst hq
  have h2 : q.2.1 = idx := congrArg Prod.snd hq
  have hv := C.2.2.2.2.2.2.2.1 k q hk
  rw [h1, h2] at hv
  exact va_ldcS C.1 C.2.1 C.2.2.2.1 hv hd k1
theorem ok_getSv (n : Nat) (hd : decode M.1 pc = .ok (.getfield idx, 3)) (hp : pc + 3 = n) (ho : M.2.1.cls = own) (hl : Cond.fieldLink own idx "java/lang/String" "value" "[B" ∈ TB) (hr : 1000 ≤ r ∧ r < 1000 + strN) (kk : Ok Sh' d M n L (.ref (100 + r) :: st) Sh μ x) : Ok Sh' d M pc L (.ref r :: st) Sh μ x := by
  subst hp; subst ho
  obtain ⟨k, hk, rfl⟩ := str_of hr
  refine Ok.goZ (fun {_ _ _ _ _ _ _ _ _ _ _ _ _ _ _ _ σ _ _} C Z hS k1 => ?_) kk
  refine vk_getf C.1 C.2.1 (Z.1.1 k hk).2.2.1 hS C.2.2.2.1 (C.2.2.2.2.1 _ hl) (fun _ h => h) hd ?_
  have e : (fun i => σ (1100 + i)) k = σ (100 + (1000 + k)) := by
    show σ (1100 + k) = _
    congr 1; omega
  rw [e]
  exact k1
theorem ok_getSc (n : Nat) (hd : decode M.1 pc = .ok (.getfield idx, 3)) (hp : pc + 3 = n) (ho : M.2.1.cls = own) (hl : Cond.fieldLink own idx "java/lang/String" "coder" "B" ∈ TB) (hr : 1000 ≤ r ∧ r < 1000 + strN) (kk : Ok Sh' d M n L (.int 0 :: st) Sh μ x) : Ok Sh' d M pc L (.ref r :: st) Sh μ x := by
  subst hp; subst ho
  obtain ⟨k, hk, rfl⟩ := str_of hr
  refine Ok.goZ (fun {_ _ _ _ _ _ _ _ _ _ _ _ _ _ _ _ σ _ _} C Z hS k1 => ?_) kk
  exact vk_getf C.1 C.2.1 (Z.1.1 k hk).2.1 hS C.2.2.2.1 (C.2.2.2.2.1 _ hl) (fun _ h => h) hd k1
theorem ok_alenS (n : Nat) (hd : decode M.1 pc = .ok (.arraylength, 1)) (hp : pc + 1 = n) (hr : 1000 ≤ r ∧ r < 1000 + strN) (kk : Ok Sh' d M n L (.int (sL r) :: st) Sh μ x) : Ok Sh' d M pc L (.ref (100 + r) :: st) Sh μ x := by
  subst hp
  obtain ⟨k, hk, rfl⟩ := str_of hr
  refine Ok.goZ (fun {_ _ _ _ _ _ _ _ _ _ _ _ _ _ _ _ σ _ _} C Z hS k1 => ?_) kk
  have e : (fun i => σ (1100 + i)) k = σ (100 + (1000 + k)) := by
    show σ (1100 + k) = _
    congr 1; omega
  have h := (Z.1.1 k hk).2.2.2
  rw [e] at h
  exact va_tlen C.1 C.2.1 h hS (v := sL (1000 + k)) (by simp [sL, sN]) hd k1
theorem ok_baldS (n : Nat) (hd : decode M.1 pc = .ok (.baload, 1)) (hp : pc + 1 = n) (hr : 1000 ≤ r ∧ r < 1000 + strN) (kk : Ok Sh' d M n L (.int (sC r i) :: st) Sh μ x) : Ok Sh' d M pc L (.int i :: .ref (100 + r) :: st) Sh μ (chk (inb i (sN r)) x) := by
  subst hp
  obtain ⟨k, hk, rfl⟩ := str_of hr
  refine ok_chk fun hin => Ok.goZ (fun {_ _ _ _ _ _ _ _ _ _ _ _ _ _ _ _ σ _ _} C Z hS k1 => ?_) kk
  have e : (fun i => σ (1100 + i)) k = σ (100 + (1000 + k)) := by
    show σ (1100 + k) = _
    congr 1; omega
  have h := (Z.1.1 k hk).2.2.2
  rw [e] at h
  refine va_tb C.1 C.2.1 h hS (v := .int (sC (1000 + k) i)) (inb_in (by simpa [sN] using hin)) (by simp [sC]) hd k1
theorem ok_getsC (n : Nat) (hd : decode M.1 pc = .ok (.getstatic idx, 3)) (hp : pc + 3 = n) (ho : M.2.1.cls = own) (hl : Cond.fieldLink own idx "java/lang/String" "COMPACT_STRINGS" "Z" ∈ TB) (kk : Ok Sh' d M n L (.int 1 :: st) Sh μ x) : Ok Sh' d M pc L st Sh μ x := by
  subst hp; subst ho
  refine Ok.goZ (fun {_ _ _ _ _ _ _ _ _ _ _ _ _ _ _ _ σ _ _} C Z hS k1 => ?_) kk
  exact va_gets C.1 C.2.1 Z.2.1 hS C.2.2.2.1 (C.2.2.2.2.1 _ hl) (fun _ h => h) hd k1
theorem ok_getsQ (n : Nat) (hd : decode M.1 pc = .ok (.getstatic idx, 3)) (hp : pc + 3 = n) (ho : M.2.1.cls = own) (hl : Cond.fieldLink own idx "jdk/internal/util/Preconditions" "SIOOBE_FORMATTER" "Ljava/util/function/BiFunction;" ∈ TB) (kk : ∀ w : Value, w.category = 1 → Ok Sh' d M n L (w :: st) Sh μ x) : Ok Sh' d M pc L st Sh μ x := by
  subst hp; subst ho
  intro v μ' hx p l e R s m args below meth c H locs cells slots Q D σ A mc ms ls C Z hA hR hP hD hS hL h1 h2 hQ
  rcases Z.2.2.1 with z | z
  · exact va_gets C.1 C.2.1 z hS C.2.2.2.1 (C.2.2.2.2.1 _ hl) (fun _ h => h) hd (kk .null rfl v μ' hx p l e R s m args below meth c H locs cells slots Q D σ A mc ms ls C Z hA hR hP hD hS hL h1 h2 hQ)
  · exact va_gets C.1 C.2.1 z hS C.2.2.2.1 (C.2.2.2.2.1 _ hl) (fun _ h => h) hd (kk (.ref 2001) rfl v μ' hx p l e R s m args below meth c H locs cells slots Q D σ A mc ms ls C Z hA hR hP hD hS hL h1 h2 hQ)
theorem ok_getsH (n : Nat) (hd : decode M.1 pc = .ok (.getstatic 51, 3)) (hp : pc + 3 = n) (ho : M.2.1.cls = "Encores$Programme") (kk : Ok Sh' d M n L (.ref 2000 :: st) Sh μ x) : Ok Sh' d M pc L st Sh μ x := by
  subst hp
  refine Ok.goZ (fun {_ _ _ _ _ _ _ _ _ _ _ _ _ _ _ _ σ _ _} C Z hS k1 => ?_) kk
  have h := C.2.2.2.1
  rw [ho] at h
  exact va_getsN C.1 C.2.1 Z.2.2.2.1 hS h (va_Nw.use rfl C.2.2.2.2.2.2.2.2.2.1) (fun _ h => h) hd k1
theorem ok_alenH (n : Nat) (hd : decode M.1 pc = .ok (.arraylength, 1)) (hp : pc + 1 = n) (kk : Ok Sh' d M n L (.int 7 :: st) Sh μ x) : Ok Sh' d M pc L (.ref 2000 :: st) Sh μ x := by
  subst hp
  refine Ok.goZ (fun {_ _ _ _ _ _ _ _ _ _ _ _ _ _ _ _ σ _ _} C Z hS k1 => ?_) kk
  exact va_tlen C.1 C.2.1 Z.2.2.2.2 hS (v := 7) rfl hd k1
theorem ok_ialdH (n : Nat) (hd : decode M.1 pc = .ok (.iaload, 1)) (hp : pc + 1 = n) (kk : Ok Sh' d M n L (.int (heapL.getD i.toNatClampNeg 0) :: st) Sh μ x) : Ok Sh' d M pc L (.int i :: .ref 2000 :: st) Sh μ (chk (inb i 7) x) := by
  subst hp
  refine ok_chk fun hin => Ok.goZ (fun {_ _ _ _ _ _ _ _ _ _ _ _ _ _ _ _ σ _ _} C Z hS k1 => ?_) kk
  exact va_ti C.1 C.2.1 Z.2.2.2.2 hS (v := .int (heapL.getD i.toNatClampNeg 0)) (inb_in hin) rfl hd k1
def isC (a : Int32) : Bool := decide ((a.toUInt32 % 65536).toInt32 = a)
theorem isC_n {a : Int32} (h : isC a = true) : narrow .char (.int a) = .int a := by
  have e := of_decide_eq_true h
  rw [← e]
  exact pk_nc a
theorem ok_i2c {a : Int32} (n : Nat) (hd : decode M.1 pc = .ok (.i2c, 1)) (hp : pc + 1 = n) (k : Ok Sh' d M n L (.int (a.toUInt32 % 65536).toInt32 :: st) Sh μ x) : Ok Sh' d M pc L (.int a :: st) Sh μ x := by
  subst hp; exact Ok.go (fun C _ _ => lv_i2c C.1 C.2.1 hd rfl) k
theorem ok_cret {a : Int32} (hd : decode M.1 pc = .ok (.ireturn, 1)) (hr : M.2.2.2 = some .char) : Ok Sh d M pc L [.int a] Sh μ (chk (isC a) (some (a, μ))) := ok_chk fun h => ok_iretT hd hr (fun _ h => by cases h) (isC_n h)
theorem ok_bretc {a : Int32} (hd : decode M.1 pc = .ok (.ireturn, 1)) (hr : M.2.2.2 = some .byte) (hn : narrow .byte (.int a) = .int a) : Ok Sh d M pc L [.int a] Sh μ (some (a, μ)) := ok_iretT hd hr (fun _ h => by cases h) hn
theorem ok_aloadA (n k : Nat) {z : Fin 4} (hd : decode M.1 pc = .ok (.aload_n z, 1)) (hp : pc + 1 = n) (hi : (z : Nat) = k) {w : Value} (hl : L[k]? = some (some w)) (kk : Ok Sh' d M n L (w :: st) Sh μ none) : Ok Sh' d M pc L st Sh μ none := Ok.none
/-- a call on a text -/
theorem ok_callVStr {As : List Value} (n : Nat) (hd : decode M.1 pc = .ok (.invokevirtual idx, 3)) (hp : pc + 3 = n) (ho : M.2.1.cls = own) (km : KM M' np) (ki : Cond.instanceMethod M'.2.1 ∈ TB) (kv : Cond.selects M'.2.1.cls M'.2.1 M'.2.1 ∈ TB) (hl : Cond.methodLink own idx M'.2.1 ∈ TB) (hm : M'.2.2.1 ≤ 21) (hr : 1000 ≤ r ∧ r < 1000 + strN) (hcl : "java/lang/String" = M'.2.1.cls) (hst0 : st0 = As.reverse ++ .ref r :: st) (hAs : As.length = np) (h8 : (st.map Value.category).sum ≤ 8) (hC : CM d M' Sh1 Sh (.ref r :: As) μ y) (hgr : csz Sh1 ≤ csz Sh' ∧ ssz Sh1 ≤ ssz Sh') (hn : csz Sh1 = csz Sh ∨ okR (csz Sh) L st) (hrt : psh M' = fun v => [.int v])
    (k : ∀ v μ1, y = some (v, μ1) → Ok Sh' (d + 1) M n L (.int v :: st) Sh1 μ1 (f v μ1)) : Ok Sh' (d + 1) M pc L st0 Sh μ (bd y f) := by
  subst hst0; subst ho
  refine Ok.call (M' := M') hp hC hgr hn (fun {_ _ _ _ _ _ _ _ _ _ _ _ _ _ D σ _ _ _ _ _ _ _} C Z hP hS hL hM hbl r1 r2 hf hpre => ?_) (fun v μ1 q => by rw [hrt]; exact k v μ1 q)
  refine va_runV (As := As.map (av σ)) (b := σ r) (C := M'.2.1.cls) (n := np) ⟨C.1, C.2.1, C.2.2.1, C.2.2.2.1, C.2.2.2.2.1⟩ hM ⟨callB_M C.2.2.2.2.1 km hl hm ⟨r1, r2⟩, C.2.2.2.2.1 _ ki, C.2.2.2.2.1 _ kv⟩ ⟨hbl, ?_, hpre⟩ rfl (by simpa using hAs) hL.1 ?_ (lv_room (st8 h8)) hd hf
  · rw [← hcl]
    obtain ⟨k, hk, rfl⟩ := str_of hr
    exact vk_recv (i := k) Z.1 hk hS
  · simp [av]
/-! calls by what comes back -/
theorem ok_callVi {As : List Value} {ci r : Nat} {e0 : SE} (n : Nat) (hd : decode M.1 pc = .ok (.invokevirtual idx, 3)) (hp : pc + 3 = n) (ho : M.2.1.cls = own) (km : KM M' np) (ki : Cond.instanceMethod M'.2.1 ∈ TB) (kv : Cond.selects M'.2.1.cls M'.2.1 M'.2.1 ∈ TB) (hl : Cond.methodLink own idx M'.2.1 ∈ TB) (hm : M'.2.2.1 ≤ 21) (hS0 : Sh[r]? = some e0) (he : e0.1 = ci) (hci : ci < 13) (hcl : (vwC ci).1 = M'.2.1.cls) (hst0 : st0 = As.reverse ++ .ref r :: st) (hAs : As.length = np) (h8 : (st.map Value.category).sum ≤ 8) (hC : CM d M' Sh1 Sh (.ref r :: As) μ y) (hgr : csz Sh1 ≤ csz Sh' ∧ ssz Sh1 ≤ ssz Sh') (hn : csz Sh1 = csz Sh ∨ okR (csz Sh) L st) (hrt : psh M' = fun v => [.int v])
    (k : ∀ v μ1, y = some (v, μ1) → Ok Sh' (d + 1) M n L (.int v :: st) Sh1 μ1 (f v μ1)) : Ok Sh' (d + 1) M pc L st0 Sh μ (bd y f) :=
  ok_callV n hd hp ho km ki kv hl hm hS0 he hci hcl hst0 hAs h8 hC hgr hn (fun v μ1 q => by rw [hrt]; exact k v μ1 q)
theorem ok_callVv {As : List Value} {ci r : Nat} {e0 : SE} (n : Nat) (hd : decode M.1 pc = .ok (.invokevirtual idx, 3)) (hp : pc + 3 = n) (ho : M.2.1.cls = own) (km : KM M' np) (ki : Cond.instanceMethod M'.2.1 ∈ TB) (kv : Cond.selects M'.2.1.cls M'.2.1 M'.2.1 ∈ TB) (hl : Cond.methodLink own idx M'.2.1 ∈ TB) (hm : M'.2.2.1 ≤ 21) (hS0 : Sh[r]? = some e0) (he : e0.1 = ci) (hci : ci < 13) (hcl : (vwC ci).1 = M'.2.1.cls) (hst0 : st0 = As.reverse ++ .ref r :: st) (hAs : As.length = np) (h8 : (st.map Value.category).sum ≤ 8) (hC : CM d M' Sh1 Sh (.ref r :: As) μ y) (hgr : csz Sh1 ≤ csz Sh' ∧ ssz Sh1 ≤ ssz Sh') (hn : csz Sh1 = csz Sh ∨ okR (csz Sh) L st) (hrt : psh M' = fun _ => [])
    (k : ∀ v μ1, y = some (v, μ1) → Ok Sh' (d + 1) M n L st Sh1 μ1 (f v μ1)) : Ok Sh' (d + 1) M pc L st0 Sh μ (bd y f) :=
  ok_callV n hd hp ho km ki kv hl hm hS0 he hci hcl hst0 hAs h8 hC hgr hn (fun v μ1 q => by rw [hrt]; exact k v μ1 q)
theorem ok_callVr {As : List Value} {ci r : Nat} {e0 : SE} (n : Nat) (hd : decode M.1 pc = .ok (.invokevirtual idx, 3)) (hp : pc + 3 = n) (ho : M.2.1.cls = own) (km : KM M' np) (ki : Cond.instanceMethod M'.2.1 ∈ TB) (kv : Cond.selects M'.2.1.cls M'.2.1 M'.2.1 ∈ TB) (hl : Cond.methodLink own idx M'.2.1 ∈ TB) (hm : M'.2.2.1 ≤ 21) (hS0 : Sh[r]? = some e0) (he : e0.1 = ci) (hci : ci < 13) (hcl : (vwC ci).1 = M'.2.1.cls) (hst0 : st0 = As.reverse ++ .ref r :: st) (hAs : As.length = np) (h8 : (st.map Value.category).sum ≤ 8) (hC : CM d M' Sh1 Sh (.ref r :: As) μ y) (hgr : csz Sh1 ≤ csz Sh' ∧ ssz Sh1 ≤ ssz Sh') (hn : csz Sh1 = csz Sh ∨ okR (csz Sh) L st) (hrt : psh M' = fun v => [if v = -1 then .null else .ref v.toNatClampNeg])
    (k : ∀ v μ1, y = some (v, μ1) → v ≠ -1 → Ok Sh' (d + 1) M n L (.ref v.toNatClampNeg :: st) Sh1 μ1 (f v μ1)) : Ok Sh' (d + 1) M pc L st0 Sh μ (bd y (fun v μ1 => chk (decide (v ≠ -1)) (f v μ1))) :=
  ok_callV n hd hp ho km ki kv hl hm hS0 he hci hcl hst0 hAs h8 hC hgr hn (fun v μ1 q => ok_chk fun h => by
    have h := of_decide_eq_true h
    rw [hrt]
    simp only [if_neg h]
    exact k v μ1 q h)
theorem ok_callSi {As : List Value} (n : Nat) (hd : decode M.1 pc = .ok (.invokestatic idx, 3)) (hp : pc + 3 = n) (ho : M.2.1.cls = own) (km : KM M' np) (ks : Cond.static M'.2.1 ∈ TB) (hl : Cond.methodLink own idx M'.2.1 ∈ TB) (hm : M'.2.2.1 ≤ 21) (hst0 : st0 = As.reverse ++ st) (hAs : As.length = np) (h8 : (st.map Value.category).sum ≤ 8) (hC : CM d M' Sh1 Sh As μ y) (hgr : csz Sh1 ≤ csz Sh' ∧ ssz Sh1 ≤ ssz Sh') (hn : csz Sh1 = csz Sh ∨ okR (csz Sh) L st) (hrt : psh M' = fun v => [.int v])
    (k : ∀ v μ1, y = some (v, μ1) → Ok Sh' (d + 1) M n L (.int v :: st) Sh1 μ1 (f v μ1)) : Ok Sh' (d + 1) M pc L st0 Sh μ (bd y f) :=
  ok_callS n hd hp ho km ks hl hm hst0 hAs h8 hC hgr hn (fun v μ1 q => by rw [hrt]; exact k v μ1 q)
theorem ok_callSv {As : List Value} (n : Nat) (hd : decode M.1 pc = .ok (.invokestatic idx, 3)) (hp : pc + 3 = n) (ho : M.2.1.cls = own) (km : KM M' np) (ks : Cond.static M'.2.1 ∈ TB) (hl : Cond.methodLink own idx M'.2.1 ∈ TB) (hm : M'.2.2.1 ≤ 21) (hst0 : st0 = As.reverse ++ st) (hAs : As.length = np) (h8 : (st.map Value.category).sum ≤ 8) (hC : CM d M' Sh1 Sh As μ y) (hgr : csz Sh1 ≤ csz Sh' ∧ ssz Sh1 ≤ ssz Sh') (hn : csz Sh1 = csz Sh ∨ okR (csz Sh) L st) (hrt : psh M' = fun _ => [])
    (k : ∀ v μ1, y = some (v, μ1) → Ok Sh' (d + 1) M n L st Sh1 μ1 (f v μ1)) : Ok Sh' (d + 1) M pc L st0 Sh μ (bd y f) :=
  ok_callS n hd hp ho km ks hl hm hst0 hAs h8 hC hgr hn (fun v μ1 q => by rw [hrt]; exact k v μ1 q)
theorem ok_callSNi {As : List Value} {host : String} (n i : Nat) (hd : decode M.1 pc = .ok (.invokestatic idx, 3)) (hp : pc + 3 = n) (ho : M.2.1.cls = own) (km : KM M' np) (ks : Cond.static M'.2.1 ∈ TB) (hl : nestL[i]? = some (own, idx, M'.2.1, host)) (hm : M'.2.2.1 ≤ 21) (hst0 : st0 = As.reverse ++ st) (hAs : As.length = np) (h8 : (st.map Value.category).sum ≤ 8) (hC : CM d M' Sh1 Sh As μ y) (hgr : csz Sh1 ≤ csz Sh' ∧ ssz Sh1 ≤ ssz Sh') (hn : csz Sh1 = csz Sh ∨ okR (csz Sh) L st) (hrt : psh M' = fun v => [.int v])
    (k : ∀ v μ1, y = some (v, μ1) → Ok Sh' (d + 1) M n L (.int v :: st) Sh1 μ1 (f v μ1)) : Ok Sh' (d + 1) M pc L st0 Sh μ (bd y f) :=
  ok_callSN n i hd hp ho km ks hl hm hst0 hAs h8 hC hgr hn (fun v μ1 q => by rw [hrt]; exact k v μ1 q)
theorem ok_aaldS {i : Int32} (n : Nat) (hd : decode M.1 pc = .ok (.aaload, 1)) (hp : pc + 1 = n) (k : Ok Sh' d M n L (.ref (mo i) :: st) SG μ x) : Ok Sh' d M pc L (.int i :: .ref 49 :: st) SG μ (chk (inb i 6) x) :=
  ok_chk fun h => ok_aaldc n _ hd hp sg_49 h (mo_at h) k
theorem lsw_none {ps : List (Int × Int)} {z k : Int} {pc t : Int} (ht : pc + z = t) (h : ∀ q ∈ ps, k ≠ q.1) : pc + Op.lookupswitch.offset ps z k = t := by
  have : Op.lookupswitch.offset ps z k = z := by
    induction ps with
    | nil => rfl
    | cons q ps ih =>
      obtain ⟨a, b⟩ := q
      have h1 : ¬ a = k := fun e => h (a, b) List.mem_cons_self e.symm
      simp only [Op.lookupswitch.offset, h1, if_false]
      exact ih (fun q hq => h q (List.mem_cons_of_mem _ hq))
  rw [this]; exact ht
end STR
end
