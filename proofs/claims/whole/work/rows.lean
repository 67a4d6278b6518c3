section
-- ===== PART A: goes FIRST, ahead of the names: the tables' words, and 'selects' of the private methods out of them =====
/-- a private method of a class that the tables say can be made, by its rows of tables_1 -/
def lw_okq (q : MethodName × Nat) : Prop := (q.1.cls ≠ "java/lang/invoke/MethodHandle" ∧ q.1.cls ≠ "java/lang/invoke/VarHandle") ∧ Cond.instantiable q.1.cls q.2 ∈ tables_1 ∧ Cond.privateMethod q.1 ∈ tables_1 ∧ Cond.instanceMethod q.1 ∈ tables_1
theorem lw_p0 : lw_okq (⟨"TokenDoors$Tape", "takeName", "()I"⟩, 5) := ⟨⟨by decide +kernel, by decide +kernel⟩, List.mem_of_getElem? (i := 119) (by decide +kernel), List.mem_of_getElem? (i := 272) (by decide +kernel), List.mem_of_getElem? (i := 273) (by decide +kernel)⟩
theorem lw_p1 : lw_okq (⟨"TokenDoors$Tape", "takeNumber", "()I"⟩, 5) := ⟨⟨by decide +kernel, by decide +kernel⟩, List.mem_of_getElem? (i := 119) (by decide +kernel), List.mem_of_getElem? (i := 279) (by decide +kernel), List.mem_of_getElem? (i := 280) (by decide +kernel)⟩
theorem lw_p2 : lw_okq (⟨"TokenDoors$Teller", "tellLine", "(I)Z"⟩, 3) := ⟨⟨by decide +kernel, by decide +kernel⟩, List.mem_of_getElem? (i := 147) (by decide +kernel), List.mem_of_getElem? (i := 283) (by decide +kernel), List.mem_of_getElem? (i := 284) (by decide +kernel)⟩
theorem lw_p3 : lw_okq (⟨"TokenDoors$Teller", "expect", "(II)Z"⟩, 3) := ⟨⟨by decide +kernel, by decide +kernel⟩, List.mem_of_getElem? (i := 147) (by decide +kernel), List.mem_of_getElem? (i := 287) (by decide +kernel), List.mem_of_getElem? (i := 288) (by decide +kernel)⟩
theorem lw_p4 : lw_okq (⟨"TokenDoors$Teller", "fail", "(I)Z"⟩, 3) := ⟨⟨by decide +kernel, by decide +kernel⟩, List.mem_of_getElem? (i := 147) (by decide +kernel), List.mem_of_getElem? (i := 291) (by decide +kernel), List.mem_of_getElem? (i := 292) (by decide +kernel)⟩
theorem lw_p5 : lw_okq (⟨"TokenDoors$Teller", "lineBegun", "()I"⟩, 3) := ⟨⟨by decide +kernel, by decide +kernel⟩, List.mem_of_getElem? (i := 147) (by decide +kernel), List.mem_of_getElem? (i := 295) (by decide +kernel), List.mem_of_getElem? (i := 296) (by decide +kernel)⟩
theorem lw_p6 : lw_okq (⟨"TokenDoors$Teller", "tellCrowd", "()Z"⟩, 3) := ⟨⟨by decide +kernel, by decide +kernel⟩, List.mem_of_getElem? (i := 147) (by decide +kernel), List.mem_of_getElem? (i := 356) (by decide +kernel), List.mem_of_getElem? (i := 357) (by decide +kernel)⟩
theorem lw_p7 : lw_okq (⟨"TokenDoors$Teller", "takeNumber", "(II)Z"⟩, 3) := ⟨⟨by decide +kernel, by decide +kernel⟩, List.mem_of_getElem? (i := 147) (by decide +kernel), List.mem_of_getElem? (i := 360) (by decide +kernel), List.mem_of_getElem? (i := 361) (by decide +kernel)⟩
theorem lw_p8 : lw_okq (⟨"TokenDoors$Teller", "takeStop", "()Z"⟩, 3) := ⟨⟨by decide +kernel, by decide +kernel⟩, List.mem_of_getElem? (i := 147) (by decide +kernel), List.mem_of_getElem? (i := 364) (by decide +kernel), List.mem_of_getElem? (i := 365) (by decide +kernel)⟩
theorem lw_p9 : lw_okq (⟨"TokenDoors$Teller", "tellDoor", "(I)Z"⟩, 3) := ⟨⟨by decide +kernel, by decide +kernel⟩, List.mem_of_getElem? (i := 147) (by decide +kernel), List.mem_of_getElem? (i := 376) (by decide +kernel), List.mem_of_getElem? (i := 377) (by decide +kernel)⟩
theorem lw_p10 : lw_okq (⟨"TokenDoors", "isDoor", "(I)Z"⟩, 11) := ⟨⟨by decide +kernel, by decide +kernel⟩, List.mem_of_getElem? (i := 18) (by decide +kernel), List.mem_of_getElem? (i := 424) (by decide +kernel), List.mem_of_getElem? (i := 425) (by decide +kernel)⟩
theorem lw_p11 : lw_okq (⟨"TokenDoors", "startTrial", "()V"⟩, 11) := ⟨⟨by decide +kernel, by decide +kernel⟩, List.mem_of_getElem? (i := 18) (by decide +kernel), List.mem_of_getElem? (i := 529) (by decide +kernel), List.mem_of_getElem? (i := 530) (by decide +kernel)⟩
theorem lw_p12 : lw_okq (⟨"TokenDoors", "leastUnrefusing", "(III)I"⟩, 11) := ⟨⟨by decide +kernel, by decide +kernel⟩, List.mem_of_getElem? (i := 18) (by decide +kernel), List.mem_of_getElem? (i := 567) (by decide +kernel), List.mem_of_getElem? (i := 568) (by decide +kernel)⟩
theorem lw_p13 : lw_okq (⟨"TokenDoors", "letAsItIs", "(I)I"⟩, 11) := ⟨⟨by decide +kernel, by decide +kernel⟩, List.mem_of_getElem? (i := 18) (by decide +kernel), List.mem_of_getElem? (i := 582) (by decide +kernel), List.mem_of_getElem? (i := 583) (by decide +kernel)⟩
theorem lw_p14 : lw_okq (⟨"TokenDoors", "bestChange", "(IIIII)I"⟩, 11) := ⟨⟨by decide +kernel, by decide +kernel⟩, List.mem_of_getElem? (i := 18) (by decide +kernel), List.mem_of_getElem? (i := 598) (by decide +kernel), List.mem_of_getElem? (i := 599) (by decide +kernel)⟩
theorem lw_p15 : lw_okq (⟨"TokenDoors", "weighAll", "(IIZ)J"⟩, 11) := ⟨⟨by decide +kernel, by decide +kernel⟩, List.mem_of_getElem? (i := 18) (by decide +kernel), List.mem_of_getElem? (i := 614) (by decide +kernel), List.mem_of_getElem? (i := 615) (by decide +kernel)⟩
def lw_privs_1 : List (MethodName × Nat) := [(⟨"TokenDoors$Tape", "takeName", "()I"⟩, 5), (⟨"TokenDoors$Tape", "takeNumber", "()I"⟩, 5), (⟨"TokenDoors$Teller", "tellLine", "(I)Z"⟩, 3), (⟨"TokenDoors$Teller", "expect", "(II)Z"⟩, 3), (⟨"TokenDoors$Teller", "fail", "(I)Z"⟩, 3), (⟨"TokenDoors$Teller", "lineBegun", "()I"⟩, 3), (⟨"TokenDoors$Teller", "tellCrowd", "()Z"⟩, 3), (⟨"TokenDoors$Teller", "takeNumber", "(II)Z"⟩, 3), (⟨"TokenDoors$Teller", "takeStop", "()Z"⟩, 3), (⟨"TokenDoors$Teller", "tellDoor", "(I)Z"⟩, 3), (⟨"TokenDoors", "isDoor", "(I)Z"⟩, 11), (⟨"TokenDoors", "startTrial", "()V"⟩, 11), (⟨"TokenDoors", "leastUnrefusing", "(III)I"⟩, 11), (⟨"TokenDoors", "letAsItIs", "(I)I"⟩, 11), (⟨"TokenDoors", "bestChange", "(IIIII)I"⟩, 11), (⟨"TokenDoors", "weighAll", "(IIZ)J"⟩, 11)]
theorem lw_r1 : ∀ q ∈ lw_privs_1, lw_okq q := List.forall_mem_cons.mpr ⟨lw_p0, List.forall_mem_cons.mpr ⟨lw_p1, List.forall_mem_cons.mpr ⟨lw_p2, List.forall_mem_cons.mpr ⟨lw_p3, List.forall_mem_cons.mpr ⟨lw_p4, List.forall_mem_cons.mpr ⟨lw_p5, List.forall_mem_cons.mpr ⟨lw_p6, List.forall_mem_cons.mpr ⟨lw_p7, List.forall_mem_cons.mpr ⟨lw_p8, List.forall_mem_cons.mpr ⟨lw_p9, List.forall_mem_cons.mpr ⟨lw_p10, List.forall_mem_cons.mpr ⟨lw_p11, List.forall_mem_cons.mpr ⟨lw_p12, List.forall_mem_cons.mpr ⟨lw_p13, List.forall_mem_cons.mpr ⟨lw_p14, List.forall_mem_cons.mpr ⟨lw_p15, fun _ h => absurd h List.not_mem_nil⟩⟩⟩⟩⟩⟩⟩⟩⟩⟩⟩⟩⟩⟩⟩⟩
theorem lw_p16 : lw_okq (⟨"TokenDoors", "runQuiet", "(II)V"⟩, 11) := ⟨⟨by decide +kernel, by decide +kernel⟩, List.mem_of_getElem? (i := 18) (by decide +kernel), List.mem_of_getElem? (i := 627) (by decide +kernel), List.mem_of_getElem? (i := 628) (by decide +kernel)⟩
theorem lw_p17 : lw_okq (⟨"TokenDoors", "fitting", "(II)I"⟩, 11) := ⟨⟨by decide +kernel, by decide +kernel⟩, List.mem_of_getElem? (i := 18) (by decide +kernel), List.mem_of_getElem? (i := 661) (by decide +kernel), List.mem_of_getElem? (i := 662) (by decide +kernel)⟩
theorem lw_p18 : lw_okq (⟨"TokenDoors", "countLetByTick", "([I)V"⟩, 11) := ⟨⟨by decide +kernel, by decide +kernel⟩, List.mem_of_getElem? (i := 18) (by decide +kernel), List.mem_of_getElem? (i := 665) (by decide +kernel), List.mem_of_getElem? (i := 666) (by decide +kernel)⟩
theorem lw_p19 : lw_okq (⟨"TokenDoors", "leftAtWorst", "(II)I"⟩, 11) := ⟨⟨by decide +kernel, by decide +kernel⟩, List.mem_of_getElem? (i := 18) (by decide +kernel), List.mem_of_getElem? (i := 685) (by decide +kernel), List.mem_of_getElem? (i := 686) (by decide +kernel)⟩
theorem lw_p20 : lw_okq (⟨"TokenDoors", "sharing", "(III)I"⟩, 11) := ⟨⟨by decide +kernel, by decide +kernel⟩, List.mem_of_getElem? (i := 18) (by decide +kernel), List.mem_of_getElem? (i := 689) (by decide +kernel), List.mem_of_getElem? (i := 690) (by decide +kernel)⟩
theorem lw_p21 : lw_okq (⟨"TokenDoors", "comesFrom", "(LTokenDoors$Sheet;I)Z"⟩, 11) := ⟨⟨by decide +kernel, by decide +kernel⟩, List.mem_of_getElem? (i := 18) (by decide +kernel), List.mem_of_getElem? (i := 744) (by decide +kernel), List.mem_of_getElem? (i := 745) (by decide +kernel)⟩
theorem lw_p22 : lw_okq (⟨"TokenDoors", "imagesKept", "()I"⟩, 11) := ⟨⟨by decide +kernel, by decide +kernel⟩, List.mem_of_getElem? (i := 18) (by decide +kernel), List.mem_of_getElem? (i := 756) (by decide +kernel), List.mem_of_getElem? (i := 757) (by decide +kernel)⟩
theorem lw_p23 : lw_okq (⟨"TokenDoorsModel", "step", "()V"⟩, 27) := ⟨⟨by decide +kernel, by decide +kernel⟩, List.mem_of_getElem? (i := 768) (by decide +kernel), List.mem_of_getElem? (i := 872) (by decide +kernel), List.mem_of_getElem? (i := 873) (by decide +kernel)⟩
theorem lw_p24 : lw_okq (⟨"TokenDoorsModel", "byteAt", "(I)I"⟩, 27) := ⟨⟨by decide +kernel, by decide +kernel⟩, List.mem_of_getElem? (i := 768) (by decide +kernel), List.mem_of_getElem? (i := 876) (by decide +kernel), List.mem_of_getElem? (i := 877) (by decide +kernel)⟩
theorem lw_p25 : lw_okq (⟨"TokenDoorsModel", "fails", "(I)V"⟩, 27) := ⟨⟨by decide +kernel, by decide +kernel⟩, List.mem_of_getElem? (i := 768) (by decide +kernel), List.mem_of_getElem? (i := 884) (by decide +kernel), List.mem_of_getElem? (i := 885) (by decide +kernel)⟩
theorem lw_p26 : lw_okq (⟨"TokenDoorsModel", "readLine", "()V"⟩, 27) := ⟨⟨by decide +kernel, by decide +kernel⟩, List.mem_of_getElem? (i := 768) (by decide +kernel), List.mem_of_getElem? (i := 888) (by decide +kernel), List.mem_of_getElem? (i := 889) (by decide +kernel)⟩
theorem lw_p27 : lw_okq (⟨"TokenDoorsModel", "nameHere", "()I"⟩, 27) := ⟨⟨by decide +kernel, by decide +kernel⟩, List.mem_of_getElem? (i := 768) (by decide +kernel), List.mem_of_getElem? (i := 892) (by decide +kernel), List.mem_of_getElem? (i := 893) (by decide +kernel)⟩
theorem lw_p28 : lw_okq (⟨"TokenDoorsModel", "readMore", "(I)V"⟩, 27) := ⟨⟨by decide +kernel, by decide +kernel⟩, List.mem_of_getElem? (i := 768) (by decide +kernel), List.mem_of_getElem? (i := 897) (by decide +kernel), List.mem_of_getElem? (i := 898) (by decide +kernel)⟩
theorem lw_p29 : lw_okq (⟨"TokenDoorsModel", "number", "(II)I"⟩, 27) := ⟨⟨by decide +kernel, by decide +kernel⟩, List.mem_of_getElem? (i := 768) (by decide +kernel), List.mem_of_getElem? (i := 901) (by decide +kernel), List.mem_of_getElem? (i := 902) (by decide +kernel)⟩
theorem lw_p30 : lw_okq (⟨"TokenDoorsModel", "roomOn", "(II)I"⟩, 27) := ⟨⟨by decide +kernel, by decide +kernel⟩, List.mem_of_getElem? (i := 768) (by decide +kernel), List.mem_of_getElem? (i := 913) (by decide +kernel), List.mem_of_getElem? (i := 914) (by decide +kernel)⟩
theorem lw_p31 : lw_okq (⟨"TokenDoorsModel", "comeOn", "(I)I"⟩, 27) := ⟨⟨by decide +kernel, by decide +kernel⟩, List.mem_of_getElem? (i := 768) (by decide +kernel), List.mem_of_getElem? (i := 917) (by decide +kernel), List.mem_of_getElem? (i := 918) (by decide +kernel)⟩
def lw_privs_2 : List (MethodName × Nat) := [(⟨"TokenDoors", "runQuiet", "(II)V"⟩, 11), (⟨"TokenDoors", "fitting", "(II)I"⟩, 11), (⟨"TokenDoors", "countLetByTick", "([I)V"⟩, 11), (⟨"TokenDoors", "leftAtWorst", "(II)I"⟩, 11), (⟨"TokenDoors", "sharing", "(III)I"⟩, 11), (⟨"TokenDoors", "comesFrom", "(LTokenDoors$Sheet;I)Z"⟩, 11), (⟨"TokenDoors", "imagesKept", "()I"⟩, 11), (⟨"TokenDoorsModel", "step", "()V"⟩, 27), (⟨"TokenDoorsModel", "byteAt", "(I)I"⟩, 27), (⟨"TokenDoorsModel", "fails", "(I)V"⟩, 27), (⟨"TokenDoorsModel", "readLine", "()V"⟩, 27), (⟨"TokenDoorsModel", "nameHere", "()I"⟩, 27), (⟨"TokenDoorsModel", "readMore", "(I)V"⟩, 27), (⟨"TokenDoorsModel", "number", "(II)I"⟩, 27), (⟨"TokenDoorsModel", "roomOn", "(II)I"⟩, 27), (⟨"TokenDoorsModel", "comeOn", "(I)I"⟩, 27)]
theorem lw_r2 : ∀ q ∈ lw_privs_2, lw_okq q := List.forall_mem_cons.mpr ⟨lw_p16, List.forall_mem_cons.mpr ⟨lw_p17, List.forall_mem_cons.mpr ⟨lw_p18, List.forall_mem_cons.mpr ⟨lw_p19, List.forall_mem_cons.mpr ⟨lw_p20, List.forall_mem_cons.mpr ⟨lw_p21, List.forall_mem_cons.mpr ⟨lw_p22, List.forall_mem_cons.mpr ⟨lw_p23, List.forall_mem_cons.mpr ⟨lw_p24, List.forall_mem_cons.mpr ⟨lw_p25, List.forall_mem_cons.mpr ⟨lw_p26, List.forall_mem_cons.mpr ⟨lw_p27, List.forall_mem_cons.mpr ⟨lw_p28, List.forall_mem_cons.mpr ⟨lw_p29, List.forall_mem_cons.mpr ⟨lw_p30, List.forall_mem_cons.mpr ⟨lw_p31, fun _ h => absurd h List.not_mem_nil⟩⟩⟩⟩⟩⟩⟩⟩⟩⟩⟩⟩⟩⟩⟩⟩
theorem lw_p32 : lw_okq (⟨"TokenDoorsModel", "isDoor", "(I)Z"⟩, 27) := ⟨⟨by decide +kernel, by decide +kernel⟩, List.mem_of_getElem? (i := 768) (by decide +kernel), List.mem_of_getElem? (i := 925) (by decide +kernel), List.mem_of_getElem? (i := 926) (by decide +kernel)⟩
theorem lw_p33 : lw_okq (⟨"TokenDoorsModel", "isCrowd", "(I)Z"⟩, 27) := ⟨⟨by decide +kernel, by decide +kernel⟩, List.mem_of_getElem? (i := 768) (by decide +kernel), List.mem_of_getElem? (i := 933) (by decide +kernel), List.mem_of_getElem? (i := 934) (by decide +kernel)⟩
theorem lw_p34 : lw_okq (⟨"TokenDoorsModel", "deepOn", "(III)V"⟩, 27) := ⟨⟨by decide +kernel, by decide +kernel⟩, List.mem_of_getElem? (i := 768) (by decide +kernel), List.mem_of_getElem? (i := 944) (by decide +kernel), List.mem_of_getElem? (i := 945) (by decide +kernel)⟩
theorem lw_p35 : lw_okq (⟨"TokenDoorsModel", "puts", "(ZII)I"⟩, 27) := ⟨⟨by decide +kernel, by decide +kernel⟩, List.mem_of_getElem? (i := 768) (by decide +kernel), List.mem_of_getElem? (i := 956) (by decide +kernel), List.mem_of_getElem? (i := 957) (by decide +kernel)⟩
theorem lw_p36 : lw_okq (⟨"TokenDoorsModel", "comes", "(III)I"⟩, 27) := ⟨⟨by decide +kernel, by decide +kernel⟩, List.mem_of_getElem? (i := 768) (by decide +kernel), List.mem_of_getElem? (i := 964) (by decide +kernel), List.mem_of_getElem? (i := 965) (by decide +kernel)⟩
theorem lw_p37 : lw_okq (⟨"TokenDoorsModel", "passOn", "(I)I"⟩, 27) := ⟨⟨by decide +kernel, by decide +kernel⟩, List.mem_of_getElem? (i := 768) (by decide +kernel), List.mem_of_getElem? (i := 977) (by decide +kernel), List.mem_of_getElem? (i := 978) (by decide +kernel)⟩
theorem lw_p38 : lw_okq (⟨"TokenDoorsModel", "starts", "()V"⟩, 27) := ⟨⟨by decide +kernel, by decide +kernel⟩, List.mem_of_getElem? (i := 768) (by decide +kernel), List.mem_of_getElem? (i := 990) (by decide +kernel), List.mem_of_getElem? (i := 991) (by decide +kernel)⟩
theorem lw_p39 : lw_okq (⟨"TokenDoorsModel", "goesOn", "(I)I"⟩, 27) := ⟨⟨by decide +kernel, by decide +kernel⟩, List.mem_of_getElem? (i := 768) (by decide +kernel), List.mem_of_getElem? (i := 994) (by decide +kernel), List.mem_of_getElem? (i := 995) (by decide +kernel)⟩
theorem lw_p40 : lw_okq (⟨"TokenDoorsModel", "tickOn", "(II)I"⟩, 27) := ⟨⟨by decide +kernel, by decide +kernel⟩, List.mem_of_getElem? (i := 768) (by decide +kernel), List.mem_of_getElem? (i := 998) (by decide +kernel), List.mem_of_getElem? (i := 999) (by decide +kernel)⟩
theorem lw_p41 : lw_okq (⟨"TokenDoorsModel", "settlesOn", "(II)V"⟩, 27) := ⟨⟨by decide +kernel, by decide +kernel⟩, List.mem_of_getElem? (i := 768) (by decide +kernel), List.mem_of_getElem? (i := 1002) (by decide +kernel), List.mem_of_getElem? (i := 1003) (by decide +kernel)⟩
theorem lw_p42 : lw_okq (⟨"TokenDoorsModel", "ticksGo", "(II)I"⟩, 27) := ⟨⟨by decide +kernel, by decide +kernel⟩, List.mem_of_getElem? (i := 768) (by decide +kernel), List.mem_of_getElem? (i := 1010) (by decide +kernel), List.mem_of_getElem? (i := 1011) (by decide +kernel)⟩
theorem lw_p43 : lw_okq (⟨"TokenDoorsModel", "copies", "(II)V"⟩, 27) := ⟨⟨by decide +kernel, by decide +kernel⟩, List.mem_of_getElem? (i := 768) (by decide +kernel), List.mem_of_getElem? (i := 1014) (by decide +kernel), List.mem_of_getElem? (i := 1015) (by decide +kernel)⟩
theorem lw_p44 : lw_okq (⟨"TokenDoorsModel", "holdOn", "(I)I"⟩, 27) := ⟨⟨by decide +kernel, by decide +kernel⟩, List.mem_of_getElem? (i := 768) (by decide +kernel), List.mem_of_getElem? (i := 1018) (by decide +kernel), List.mem_of_getElem? (i := 1019) (by decide +kernel)⟩
theorem lw_p45 : lw_okq (⟨"TokenDoorsModel", "mostAt", "(IIII)I"⟩, 27) := ⟨⟨by decide +kernel, by decide +kernel⟩, List.mem_of_getElem? (i := 768) (by decide +kernel), List.mem_of_getElem? (i := 1058) (by decide +kernel), List.mem_of_getElem? (i := 1059) (by decide +kernel)⟩
theorem lw_p46 : lw_okq (⟨"TokenDoorsModel", "byNobody", "(IIZI)J"⟩, 27) := ⟨⟨by decide +kernel, by decide +kernel⟩, List.mem_of_getElem? (i := 768) (by decide +kernel), List.mem_of_getElem? (i := 1072) (by decide +kernel), List.mem_of_getElem? (i := 1073) (by decide +kernel)⟩
theorem lw_p47 : lw_okq (⟨"TokenDoorsModel", "isAsSeen", "(II)Z"⟩, 27) := ⟨⟨by decide +kernel, by decide +kernel⟩, List.mem_of_getElem? (i := 768) (by decide +kernel), List.mem_of_getElem? (i := 1098) (by decide +kernel), List.mem_of_getElem? (i := 1099) (by decide +kernel)⟩
def lw_privs_3 : List (MethodName × Nat) := [(⟨"TokenDoorsModel", "isDoor", "(I)Z"⟩, 27), (⟨"TokenDoorsModel", "isCrowd", "(I)Z"⟩, 27), (⟨"TokenDoorsModel", "deepOn", "(III)V"⟩, 27), (⟨"TokenDoorsModel", "puts", "(ZII)I"⟩, 27), (⟨"TokenDoorsModel", "comes", "(III)I"⟩, 27), (⟨"TokenDoorsModel", "passOn", "(I)I"⟩, 27), (⟨"TokenDoorsModel", "starts", "()V"⟩, 27), (⟨"TokenDoorsModel", "goesOn", "(I)I"⟩, 27), (⟨"TokenDoorsModel", "tickOn", "(II)I"⟩, 27), (⟨"TokenDoorsModel", "settlesOn", "(II)V"⟩, 27), (⟨"TokenDoorsModel", "ticksGo", "(II)I"⟩, 27), (⟨"TokenDoorsModel", "copies", "(II)V"⟩, 27), (⟨"TokenDoorsModel", "holdOn", "(I)I"⟩, 27), (⟨"TokenDoorsModel", "mostAt", "(IIII)I"⟩, 27), (⟨"TokenDoorsModel", "byNobody", "(IIZI)J"⟩, 27), (⟨"TokenDoorsModel", "isAsSeen", "(II)Z"⟩, 27)]
theorem lw_r3 : ∀ q ∈ lw_privs_3, lw_okq q := List.forall_mem_cons.mpr ⟨lw_p32, List.forall_mem_cons.mpr ⟨lw_p33, List.forall_mem_cons.mpr ⟨lw_p34, List.forall_mem_cons.mpr ⟨lw_p35, List.forall_mem_cons.mpr ⟨lw_p36, List.forall_mem_cons.mpr ⟨lw_p37, List.forall_mem_cons.mpr ⟨lw_p38, List.forall_mem_cons.mpr ⟨lw_p39, List.forall_mem_cons.mpr ⟨lw_p40, List.forall_mem_cons.mpr ⟨lw_p41, List.forall_mem_cons.mpr ⟨lw_p42, List.forall_mem_cons.mpr ⟨lw_p43, List.forall_mem_cons.mpr ⟨lw_p44, List.forall_mem_cons.mpr ⟨lw_p45, List.forall_mem_cons.mpr ⟨lw_p46, List.forall_mem_cons.mpr ⟨lw_p47, fun _ h => absurd h List.not_mem_nil⟩⟩⟩⟩⟩⟩⟩⟩⟩⟩⟩⟩⟩⟩⟩⟩
theorem lw_p48 : lw_okq (⟨"TokenDoorsModel", "ratesOf", "(I)I"⟩, 27) := ⟨⟨by decide +kernel, by decide +kernel⟩, List.mem_of_getElem? (i := 768) (by decide +kernel), List.mem_of_getElem? (i := 1110) (by decide +kernel), List.mem_of_getElem? (i := 1111) (by decide +kernel)⟩
theorem lw_p49 : lw_okq (⟨"TokenDoorsModel", "worstAt", "(II)I"⟩, 27) := ⟨⟨by decide +kernel, by decide +kernel⟩, List.mem_of_getElem? (i := 768) (by decide +kernel), List.mem_of_getElem? (i := 1118) (by decide +kernel), List.mem_of_getElem? (i := 1119) (by decide +kernel)⟩
def lw_privs_4 : List (MethodName × Nat) := [(⟨"TokenDoorsModel", "ratesOf", "(I)I"⟩, 27), (⟨"TokenDoorsModel", "worstAt", "(II)I"⟩, 27)]
theorem lw_r4 : ∀ q ∈ lw_privs_4, lw_okq q := List.forall_mem_cons.mpr ⟨lw_p48, List.forall_mem_cons.mpr ⟨lw_p49, fun _ h => absurd h List.not_mem_nil⟩⟩
def lw_privs : List (MethodName × Nat) := lw_privs_1 ++ (lw_privs_2 ++ (lw_privs_3 ++ (lw_privs_4)))
def lw_tbl : List Cond := k2_sels lw_privs ++ tables_1
theorem lw_privs_ok : ∀ q ∈ lw_privs, lw_okq q := by
  show ∀ q ∈ lw_privs_1 ++ (lw_privs_2 ++ (lw_privs_3 ++ (lw_privs_4))), lw_okq q
  exact List.forall_mem_append.mpr ⟨lw_r1, List.forall_mem_append.mpr ⟨lw_r2, List.forall_mem_append.mpr ⟨lw_r3, lw_r4⟩⟩⟩
end
section
/-! ===== BEGIN words of one list among another's, by their places ===== -/
theorem goodIn_r {big : List Cond} (ws : List Cond) (ps : List Nat) (hp : ws = ps.filterMap (fun i => big[i]?)) (h : ws.all goodWord = true) : GoodIn big ws := by
  intro w hw
  have h1 := List.all_eq_true.mp h w hw
  rw [hp] at hw
  obtain ⟨i, -, hi⟩ := List.mem_filterMap.mp hw
  have hm : w ∈ big := by first | exact List.mem_of_getElem? hi | exact List.getElem?_mem hi
  exact ⟨hm, good_of_word h1⟩
theorem goodIn_app {big a b : List Cond} (ha : GoodIn big a) (hb : GoodIn big b) : GoodIn big (a ++ b) := fun w h => (List.mem_append.mp h).elim (ha w) (hb w)
theorem goodIn_ca {big a b : List Cond} {c : Cond} (ha : GoodIn big (c :: a)) (hb : GoodIn big b) : GoodIn big (c :: (a ++ b)) := fun w h => (List.mem_cons.mp h).elim (fun e => ha w (List.mem_cons.mpr (Or.inl e))) (fun h => (List.mem_append.mp h).elim (fun h => ha w (List.mem_cons.mpr (Or.inr h))) (hb w))
theorem goodIn_sub {big ws : List Cond} (hm : ∀ w ∈ ws, w ∈ big) (h : ws.all goodWord = true) : GoodIn big ws := fun w hw => ⟨hm w hw, good_of_word (List.all_eq_true.mp h w hw)⟩
/-! ===== END ===== -/

/-! ===== BEGIN printed: names, fields, word lists, decode rows ===== -/
def RX0 : String := "TokenDoors$Crowd"
def TX0 : u_T := fun k => match k with
  | 0 => ("TokenDoors$Crowd", "start", "I", false)
  | 1 => ("TokenDoors$Crowd", "many", "I", false)
  | _ => ("TokenDoors$Crowd", "every", "I", false)
def tyX0 : Nat → FieldType := fun k => match k with
  | 0 => .int
  | 1 => .int
  | _ => .int
abbrev wsX00 : List Cond := u_ws RX0 TX0 3
theorem nmX0 : ∀ a, a < 3 → ∀ b, b < 3 → a ≠ b → (TX0 a).2.1 ≠ (TX0 b).2.1 := by decide +kernel
theorem tyX0_ok : ∀ k, k < 3 → parseFieldDescriptor (TX0 k).2.2.1 = some (tyX0 k) := by decide +kernel
abbrev cX0_init : ByteArray := prog_2_method_1_code
def yX0_init : MethodName := ⟨RX0, "<init>", "()V"⟩
abbrev cX0_make : ByteArray := prog_2_method_2_code
def yX0_make : MethodName := ⟨RX0, "make", "(III)V"⟩
abbrev cX0_comesAt : ByteArray := prog_2_method_3_code
def yX0_comesAt : MethodName := ⟨RX0, "comesAt", "(I)Z"⟩
def RX1 : String := "TokenDoors$Door"
def TX1 : u_T := fun k => match k with
  | 0 => ("TokenDoors$Door", "kind", "I", false)
  | 1 => ("TokenDoors$Door", "depth", "I", false)
  | 2 => ("TokenDoors$Door", "rate", "I", false)
  | 3 => ("TokenDoors$Door", "holds", "I", false)
  | 4 => ("TokenDoors$Door", "refused", "I", false)
  | _ => ("TokenDoors$Door", "standsOpen", "Z", false)
def tyX1 : Nat → FieldType := fun k => match k with
  | 0 => .int
  | 1 => .int
  | 2 => .int
  | 3 => .int
  | 4 => .int
  | _ => .boolean
abbrev wsX10 : List Cond := u_ws RX1 TX1 6
theorem nmX1 : ∀ a, a < 6 → ∀ b, b < 6 → a ≠ b → (TX1 a).2.1 ≠ (TX1 b).2.1 := by decide +kernel
theorem tyX1_ok : ∀ k, k < 6 → parseFieldDescriptor (TX1 k).2.2.1 = some (tyX1 k) := by decide +kernel
abbrev cX1_init : ByteArray := prog_3_method_1_code
def yX1_init : MethodName := ⟨RX1, "<init>", "()V"⟩
abbrev cX1_make : ByteArray := prog_3_method_2_code
def yX1_make : MethodName := ⟨RX1, "make", "(III)V"⟩
abbrev cX1_become : ByteArray := prog_3_method_3_code
def yX1_become : MethodName := ⟨RX1, "become", "(LTokenDoors$Door;)V"⟩
abbrev cX1_countAnew : ByteArray := prog_3_method_4_code
def yX1_countAnew : MethodName := ⟨RX1, "countAnew", "()V"⟩
abbrev cX1_told : ByteArray := prog_3_method_5_code
def yX1_told : MethodName := ⟨RX1, "told", "(I)I"⟩
abbrev cX1_change : ByteArray := prog_3_method_6_code
def yX1_change : MethodName := ⟨RX1, "change", "(II)V"⟩
abbrev cX1_room : ByteArray := prog_3_method_7_code
def yX1_room : MethodName := ⟨RX1, "room", "()I"⟩
abbrev cX1_admit : ByteArray := prog_3_method_8_code
def yX1_admit : MethodName := ⟨RX1, "admit", "(I)I"⟩
abbrev cX1_settle : ByteArray := prog_3_method_9_code
def yX1_settle : MethodName := ⟨RX1, "settle", "(I)V"⟩
def RX2 : String := "TokenDoors$Hall"
def TX2 : u_T := fun k => match k with
  | 0 => ("TokenDoors$Hall", "doors", "[LTokenDoors$Door;", true)
  | 1 => ("TokenDoors$Hall", "crowds", "[LTokenDoors$Crowd;", true)
  | 2 => ("TokenDoors$Hall", "doorCount", "I", false)
  | 3 => ("TokenDoors$Hall", "crowdCount", "I", false)
  | 4 => ("TokenDoors$Hall", "tick", "I", false)
  | 5 => ("TokenDoors$Hall", "let", "I", false)
  | _ => ("TokenDoors$Hall", "turned", "I", false)
def tyX2 : Nat → FieldType := fun k => match k with
  | 0 => .array (.object "TokenDoors$Door")
  | 1 => .array (.object "TokenDoors$Crowd")
  | 2 => .int
  | 3 => .int
  | 4 => .int
  | 5 => .int
  | _ => .int
abbrev wsX20 : List Cond := u_ws RX2 TX2 7
theorem nmX2 : ∀ a, a < 7 → ∀ b, b < 7 → a ≠ b → (TX2 a).2.1 ≠ (TX2 b).2.1 := by decide +kernel
theorem tyX2_ok : ∀ k, k < 7 → parseFieldDescriptor (TX2 k).2.2.1 = some (tyX2 k) := by decide +kernel
abbrev cX2_init : ByteArray := prog_4_method_1_code
def yX2_init : MethodName := ⟨RX2, "<init>", "()V"⟩
abbrev cX2_clear : ByteArray := prog_4_method_2_code
def yX2_clear : MethodName := ⟨RX2, "clear", "()V"⟩
abbrev cX2_become : ByteArray := prog_4_method_3_code
def yX2_become : MethodName := ⟨RX2, "become", "(LTokenDoors$Hall;)V"⟩
abbrev cX2_countAnew : ByteArray := prog_4_method_4_code
def yX2_countAnew : MethodName := ⟨RX2, "countAnew", "()V"⟩
abbrev cX2_addDoor : ByteArray := prog_4_method_5_code
def yX2_addDoor : MethodName := ⟨RX2, "addDoor", "(III)Z"⟩
abbrev cX2_addCrowd : ByteArray := prog_4_method_6_code
def yX2_addCrowd : MethodName := ⟨RX2, "addCrowd", "(III)Z"⟩
abbrev cX2_exchange : ByteArray := prog_4_method_7_code
def yX2_exchange : MethodName := ⟨RX2, "exchange", "(II)V"⟩
abbrev cX2_comers : ByteArray := prog_4_method_8_code
def yX2_comers : MethodName := ⟨RX2, "comers", "()I"⟩
abbrev cX2_letters : ByteArray := prog_4_method_9_code
def yX2_letters : MethodName := ⟨RX2, "letters", "()I"⟩
abbrev cX2_firstShut : ByteArray := prog_4_method_10_code
def yX2_firstShut : MethodName := ⟨RX2, "firstShut", "()I"⟩
abbrev cX2_admit : ByteArray := prog_4_method_11_code
def yX2_admit : MethodName := ⟨RX2, "admit", "(I)I"⟩
abbrev cX2_tickWith : ByteArray := prog_4_method_12_code
def yX2_tickWith : MethodName := ⟨RX2, "tickWith", "(I)I"⟩
abbrev cX2_tickOn : ByteArray := prog_4_method_13_code
def yX2_tickOn : MethodName := ⟨RX2, "tickOn", "()I"⟩
abbrev cX2_runOn : ByteArray := prog_4_method_14_code
def yX2_runOn : MethodName := ⟨RX2, "runOn", "(I)I"⟩
abbrev cX2_heldByAll : ByteArray := prog_4_method_15_code
def yX2_heldByAll : MethodName := ⟨RX2, "heldByAll", "()I"⟩
abbrev cX2_depthOfAll : ByteArray := prog_4_method_16_code
def yX2_depthOfAll : MethodName := ⟨RX2, "depthOfAll", "()I"⟩
abbrev cX2_manyOfAll : ByteArray := prog_4_method_17_code
def yX2_manyOfAll : MethodName := ⟨RX2, "manyOfAll", "()I"⟩
def RX3 : String := "TokenDoors$Seen"
def TX3 : u_T := fun k => match k with
  | 0 => ("TokenDoors$Seen", "inTick", "[I", true)
  | 1 => ("TokenDoors$Seen", "let", "[I", true)
  | _ => ("TokenDoors$Seen", "size", "I", false)
def tyX3 : Nat → FieldType := fun k => match k with
  | 0 => .array .int
  | 1 => .array .int
  | _ => .int
abbrev wsX30 : List Cond := u_ws RX3 TX3 3
theorem nmX3 : ∀ a, a < 3 → ∀ b, b < 3 → a ≠ b → (TX3 a).2.1 ≠ (TX3 b).2.1 := by decide +kernel
theorem tyX3_ok : ∀ k, k < 3 → parseFieldDescriptor (TX3 k).2.2.1 = some (tyX3 k) := by decide +kernel
abbrev cX3_init : ByteArray := prog_5_method_1_code
def yX3_init : MethodName := ⟨RX3, "<init>", "()V"⟩
abbrev cX3_add : ByteArray := prog_5_method_2_code
def yX3_add : MethodName := ⟨RX3, "add", "(II)Z"⟩
abbrev cX3_agreesWith : ByteArray := prog_5_method_3_code
def yX3_agreesWith : MethodName := ⟨RX3, "agreesWith", "([I)Z"⟩
def RX4 : String := "TokenDoors$Sheet"
def TX4 : u_T := fun k => match k with
  | 0 => ("TokenDoors$Sheet", "cells", "[I", true)
  | 1 => ("TokenDoors$Sheet", "laid", "Z", false)
  | 2 => ("TokenDoors$Sheet", "lane", "I", false)
  | _ => ("TokenDoors$Sheet", "size", "I", false)
def tyX4 : Nat → FieldType := fun k => match k with
  | 0 => .array .int
  | 1 => .boolean
  | 2 => .int
  | _ => .int
abbrev wsX40 : List Cond := u_ws RX4 TX4 4
theorem nmX4 : ∀ a, a < 4 → ∀ b, b < 4 → a ≠ b → (TX4 a).2.1 ≠ (TX4 b).2.1 := by decide +kernel
theorem tyX4_ok : ∀ k, k < 4 → parseFieldDescriptor (TX4 k).2.2.1 = some (tyX4 k) := by decide +kernel
abbrev cX4_init : ByteArray := prog_6_method_1_code
def yX4_init : MethodName := ⟨RX4, "<init>", "()V"⟩
abbrev cX4_renew : ByteArray := prog_6_method_2_code
def yX4_renew : MethodName := ⟨RX4, "renew", "(II)V"⟩
abbrev cX4_put : ByteArray := prog_6_method_3_code
def yX4_put : MethodName := ⟨RX4, "put", "(II)V"⟩
abbrev cX4_faultAt : ByteArray := prog_6_method_4_code
def yX4_faultAt : MethodName := ⟨RX4, "faultAt", "(I)I"⟩
abbrev cX4_faultInThree : ByteArray := prog_6_method_5_code
def yX4_faultInThree : MethodName := ⟨RX4, "faultInThree", "(II)I"⟩
def RX5 : String := "TokenDoors$Tape"
def TX5 : u_T := fun k => match k with
  | 0 => ("TokenDoors$Tape", "bytes", "[B", true)
  | 1 => ("TokenDoors$Tape", "length", "I", false)
  | 2 => ("TokenDoors$Tape", "next", "I", false)
  | 3 => ("TokenDoors$Tape", "start", "I", false)
  | _ => ("TokenDoors$Tape", "value", "I", false)
def tyX5 : Nat → FieldType := fun k => match k with
  | 0 => .array .byte
  | 1 => .int
  | 2 => .int
  | 3 => .int
  | _ => .int
abbrev wsX50 : List Cond := u_ws RX5 TX5 5
theorem nmX5 : ∀ a, a < 5 → ∀ b, b < 5 → a ≠ b → (TX5 a).2.1 ≠ (TX5 b).2.1 := by decide +kernel
theorem tyX5_ok : ∀ k, k < 5 → parseFieldDescriptor (TX5 k).2.2.1 = some (tyX5 k) := by decide +kernel
abbrev cX5_init : ByteArray := prog_7_method_1_code
def yX5_init : MethodName := ⟨RX5, "<init>", "()V"⟩
abbrev cX5_append : ByteArray := prog_7_method_2_code
def yX5_append : MethodName := ⟨RX5, "append", "(I)Z"⟩
abbrev cX5_advance : ByteArray := prog_7_method_3_code
def yX5_advance : MethodName := ⟨RX5, "advance", "()I"⟩
abbrev cX5_takeName : ByteArray := prog_7_method_4_code
def yX5_takeName : MethodName := ⟨RX5, "takeName", "()I"⟩
abbrev cX5_takeNumber : ByteArray := prog_7_method_5_code
def yX5_takeNumber : MethodName := ⟨RX5, "takeNumber", "()I"⟩
abbrev cX5_nameIs : ByteArray := prog_7_method_6_code
def yX5_nameIs : MethodName := ⟨RX5, "nameIs", "(Ljava/lang/String;)Z"⟩
abbrev cX5_isLetter : ByteArray := prog_7_method_7_code
def yX5_isLetter : MethodName := ⟨RX5, "isLetter", "(B)Z"⟩
abbrev cX5_isFigure : ByteArray := prog_7_method_8_code
def yX5_isFigure : MethodName := ⟨RX5, "isFigure", "(B)Z"⟩
def RX6 : String := "TokenDoors$Teller"
def TX6 : u_T := fun k => match k with
  | 0 => ("TokenDoors$Teller", "tape", "LTokenDoors$Tape;", true)
  | 1 => ("TokenDoors$Teller", "draft", "LTokenDoors$Hall;", true)
  | _ => ("TokenDoors$Teller", "found", "I", false)
def tyX6 : Nat → FieldType := fun k => match k with
  | 0 => .object "TokenDoors$Tape"
  | 1 => .object "TokenDoors$Hall"
  | _ => .int
abbrev wsX60 : List Cond := u_ws RX6 TX6 3
theorem nmX6 : ∀ a, a < 3 → ∀ b, b < 3 → a ≠ b → (TX6 a).2.1 ≠ (TX6 b).2.1 := by decide +kernel
theorem tyX6_ok : ∀ k, k < 3 → parseFieldDescriptor (TX6 k).2.2.1 = some (tyX6 k) := by decide +kernel
abbrev cX6_init : ByteArray := prog_8_method_1_code
def yX6_init : MethodName := ⟨RX6, "<init>", "(LTokenDoors$Tape;LTokenDoors$Hall;)V"⟩
abbrev cX6_tellAll : ByteArray := prog_8_method_2_code
def yX6_tellAll : MethodName := ⟨RX6, "tellAll", "()I"⟩
abbrev cX6_tellLine : ByteArray := prog_8_method_3_code
def yX6_tellLine : MethodName := ⟨RX6, "tellLine", "(I)Z"⟩
abbrev cX6_lineBegun : ByteArray := prog_8_method_4_code
def yX6_lineBegun : MethodName := ⟨RX6, "lineBegun", "()I"⟩
abbrev cX6_tellDoor : ByteArray := prog_8_method_5_code
def yX6_tellDoor : MethodName := ⟨RX6, "tellDoor", "(I)Z"⟩
abbrev cX6_tellCrowd : ByteArray := prog_8_method_6_code
def yX6_tellCrowd : MethodName := ⟨RX6, "tellCrowd", "()Z"⟩
abbrev cX6_takeNumber : ByteArray := prog_8_method_7_code
def yX6_takeNumber : MethodName := ⟨RX6, "takeNumber", "(II)Z"⟩
abbrev cX6_takeStop : ByteArray := prog_8_method_8_code
def yX6_takeStop : MethodName := ⟨RX6, "takeStop", "()Z"⟩
abbrev cX6_expect : ByteArray := prog_8_method_9_code
def yX6_expect : MethodName := ⟨RX6, "expect", "(II)Z"⟩
abbrev cX6_fail : ByteArray := prog_8_method_10_code
def yX6_fail : MethodName := ⟨RX6, "fail", "(I)Z"⟩
def RX7 : String := "TokenDoors"
def TX7 : u_T := fun k => match k with
  | 0 => ("TokenDoors", "now", "LTokenDoors$Hall;", true)
  | 1 => ("TokenDoors", "trial", "LTokenDoors$Hall;", true)
  | 2 => ("TokenDoors", "images", "[LTokenDoors$Hall;", true)
  | 3 => ("TokenDoors", "kept", "[Z", true)
  | 4 => ("TokenDoors", "tape", "LTokenDoors$Tape;", true)
  | 5 => ("TokenDoors", "teller", "LTokenDoors$Teller;", true)
  | 6 => ("TokenDoors", "seen", "LTokenDoors$Seen;", true)
  | 7 => ("TokenDoors", "sheets", "[LTokenDoors$Sheet;", true)
  | 8 => ("TokenDoors", "letByRate", "[[I", true)
  | 9 => ("TokenDoors", "letByTick", "[I", true)
  | _ => ("TokenDoors", "readFault", "I", false)
def tyX7 : Nat → FieldType := fun k => match k with
  | 0 => .object "TokenDoors$Hall"
  | 1 => .object "TokenDoors$Hall"
  | 2 => .array (.object "TokenDoors$Hall")
  | 3 => .array .boolean
  | 4 => .object "TokenDoors$Tape"
  | 5 => .object "TokenDoors$Teller"
  | 6 => .object "TokenDoors$Seen"
  | 7 => .array (.object "TokenDoors$Sheet")
  | 8 => .array (.array .int)
  | 9 => .array .int
  | _ => .int
abbrev wsX70 : List Cond := u_ws RX7 TX7 11
theorem nmX7 : ∀ a, a < 11 → ∀ b, b < 11 → a ≠ b → (TX7 a).2.1 ≠ (TX7 b).2.1 := by decide +kernel
theorem tyX7_ok : ∀ k, k < 11 → parseFieldDescriptor (TX7 k).2.2.1 = some (tyX7 k) := by decide +kernel
abbrev cX7_init : ByteArray := prog_1_method_1_code
def yX7_init : MethodName := ⟨RX7, "<init>", "()V"⟩
abbrev cX7_feed : ByteArray := prog_1_method_2_code
def yX7_feed : MethodName := ⟨RX7, "feed", "(I)I"⟩
abbrev cX7_end : ByteArray := prog_1_method_3_code
def yX7_end : MethodName := ⟨RX7, "end", "(I)I"⟩
abbrev cX7_text : ByteArray := prog_1_method_4_code
def yX7_text : MethodName := ⟨RX7, "text", "()I"⟩
abbrev cX7_fault : ByteArray := prog_1_method_5_code
def yX7_fault : MethodName := ⟨RX7, "fault", "()I"⟩
abbrev cX7_rule : ByteArray := prog_1_method_6_code
def yX7_rule : MethodName := ⟨RX7, "rule", "(I)I"⟩
abbrev cX7_door : ByteArray := prog_1_method_7_code
def yX7_door : MethodName := ⟨RX7, "door", "(II)I"⟩
abbrev cX7_crowd : ByteArray := prog_1_method_8_code
def yX7_crowd : MethodName := ⟨RX7, "crowd", "(II)I"⟩
abbrev cX7_alter : ByteArray := prog_1_method_9_code
def yX7_alter : MethodName := ⟨RX7, "alter", "(III)I"⟩
abbrev cX7_hang : ByteArray := prog_1_method_10_code
def yX7_hang : MethodName := ⟨RX7, "hang", "(III)I"⟩
abbrev cX7_cut : ByteArray := prog_1_method_11_code
def yX7_cut : MethodName := ⟨RX7, "cut", "(I)I"⟩
abbrev cX7_come : ByteArray := prog_1_method_12_code
def yX7_come : MethodName := ⟨RX7, "come", "(III)I"⟩
abbrev cX7_leave : ByteArray := prog_1_method_13_code
def yX7_leave : MethodName := ⟨RX7, "leave", "(I)I"⟩
abbrev cX7_pass : ByteArray := prog_1_method_14_code
def yX7_pass : MethodName := ⟨RX7, "pass", "()I"⟩
abbrev cX7_ticks : ByteArray := prog_1_method_15_code
def yX7_ticks : MethodName := ⟨RX7, "ticks", "(I)I"⟩
abbrev cX7_runs : ByteArray := prog_1_method_16_code
def yX7_runs : MethodName := ⟨RX7, "runs", "(II)I"⟩
abbrev cX7_ahead : ByteArray := prog_1_method_17_code
def yX7_ahead : MethodName := ⟨RX7, "ahead", "(II)I"⟩
abbrev cX7_lets : ByteArray := prog_1_method_18_code
def yX7_lets : MethodName := ⟨RX7, "lets", "(I)I"⟩
abbrev cX7_turns : ByteArray := prog_1_method_19_code
def yX7_turns : MethodName := ⟨RX7, "turns", "(II)I"⟩
abbrev cX7_when : ByteArray := prog_1_method_20_code
def yX7_when : MethodName := ⟨RX7, "when", "()I"⟩
abbrev cX7_depth : ByteArray := prog_1_method_21_code
def yX7_depth : MethodName := ⟨RX7, "depth", "(II)I"⟩
abbrev cX7_rate : ByteArray := prog_1_method_22_code
def yX7_rate : MethodName := ⟨RX7, "rate", "(II)I"⟩
abbrev cX7_swap : ByteArray := prog_1_method_23_code
def yX7_swap : MethodName := ⟨RX7, "swap", "(II)I"⟩
abbrev cX7_open : ByteArray := prog_1_method_24_code
def yX7_open : MethodName := ⟨RX7, "open", "(II)I"⟩
abbrev cX7_kind : ByteArray := prog_1_method_25_code
def yX7_kind : MethodName := ⟨RX7, "kind", "(III)I"⟩
abbrev cX7_fill : ByteArray := prog_1_method_26_code
def yX7_fill : MethodName := ⟨RX7, "fill", "(III)I"⟩
abbrev cX7_luck : ByteArray := prog_1_method_27_code
def yX7_luck : MethodName := ⟨RX7, "luck", "(III)J"⟩
abbrev cX7_mean : ByteArray := prog_1_method_28_code
def yX7_mean : MethodName := ⟨RX7, "mean", "(III)J"⟩
abbrev cX7_see : ByteArray := prog_1_method_29_code
def yX7_see : MethodName := ⟨RX7, "see", "(II)I"⟩
abbrev cX7_forget : ByteArray := prog_1_method_30_code
def yX7_forget : MethodName := ⟨RX7, "forget", "(I)I"⟩
abbrev cX7_kinds : ByteArray := prog_1_method_31_code
def yX7_kinds : MethodName := ⟨RX7, "kinds", "(I)I"⟩
abbrev cX7_depths : ByteArray := prog_1_method_32_code
def yX7_depths : MethodName := ⟨RX7, "depths", "(I)I"⟩
abbrev cX7_rates : ByteArray := prog_1_method_33_code
def yX7_rates : MethodName := ⟨RX7, "rates", "(I)I"⟩
abbrev cX7_ask : ByteArray := prog_1_method_34_code
def yX7_ask : MethodName := ⟨RX7, "ask", "(II)I"⟩
abbrev cX7_drift : ByteArray := prog_1_method_35_code
def yX7_drift : MethodName := ⟨RX7, "drift", "(III)I"⟩
abbrev cX7_keep : ByteArray := prog_1_method_36_code
def yX7_keep : MethodName := ⟨RX7, "keep", "(I)I"⟩
abbrev cX7_back : ByteArray := prog_1_method_37_code
def yX7_back : MethodName := ⟨RX7, "back", "(I)I"⟩
abbrev cX7_sheet : ByteArray := prog_1_method_38_code
def yX7_sheet : MethodName := ⟨RX7, "sheet", "(III)I"⟩
abbrev cX7_lay : ByteArray := prog_1_method_39_code
def yX7_lay : MethodName := ⟨RX7, "lay", "(III)I"⟩
abbrev cX7_read : ByteArray := prog_1_method_40_code
def yX7_read : MethodName := ⟨RX7, "read", "(IIII)I"⟩
abbrev cX7_torn : ByteArray := prog_1_method_41_code
def yX7_torn : MethodName := ⟨RX7, "torn", "()I"⟩
abbrev cX7_count : ByteArray := prog_1_method_42_code
def yX7_count : MethodName := ⟨RX7, "count", "(I)I"⟩
abbrev cX7_imagesKept : ByteArray := prog_1_method_43_code
def yX7_imagesKept : MethodName := ⟨RX7, "imagesKept", "()I"⟩
abbrev cX7_isDoor : ByteArray := prog_1_method_44_code
def yX7_isDoor : MethodName := ⟨RX7, "isDoor", "(I)Z"⟩
abbrev cX7_isRun : ByteArray := prog_1_method_45_code
def yX7_isRun : MethodName := ⟨RX7, "isRun", "(I)Z"⟩
abbrev cX7_isChoice : ByteArray := prog_1_method_46_code
def yX7_isChoice : MethodName := ⟨RX7, "isChoice", "(I)Z"⟩
abbrev cX7_isOdds : ByteArray := prog_1_method_47_code
def yX7_isOdds : MethodName := ⟨RX7, "isOdds", "(II)Z"⟩
abbrev cX7_isSheet : ByteArray := prog_1_method_48_code
def yX7_isSheet : MethodName := ⟨RX7, "isSheet", "(I)Z"⟩
abbrev cX7_isLane : ByteArray := prog_1_method_49_code
def yX7_isLane : MethodName := ⟨RX7, "isLane", "(I)Z"⟩
abbrev cX7_isCrowd : ByteArray := prog_1_method_50_code
def yX7_isCrowd : MethodName := ⟨RX7, "isCrowd", "(III)Z"⟩
abbrev cX7_mayBecome : ByteArray := prog_1_method_51_code
def yX7_mayBecome : MethodName := ⟨RX7, "mayBecome", "(II)Z"⟩
abbrev cX7_lowest : ByteArray := prog_1_method_52_code
def yX7_lowest : MethodName := ⟨RX7, "lowest", "(I)I"⟩
abbrev cX7_highest : ByteArray := prog_1_method_53_code
def yX7_highest : MethodName := ⟨RX7, "highest", "(I)I"⟩
abbrev cX7_startTrial : ByteArray := prog_1_method_54_code
def yX7_startTrial : MethodName := ⟨RX7, "startTrial", "()V"⟩
abbrev cX7_letAsItIs : ByteArray := prog_1_method_55_code
def yX7_letAsItIs : MethodName := ⟨RX7, "letAsItIs", "(I)I"⟩
abbrev cX7_leastUnrefusing : ByteArray := prog_1_method_56_code
def yX7_leastUnrefusing : MethodName := ⟨RX7, "leastUnrefusing", "(III)I"⟩
abbrev cX7_bestChange : ByteArray := prog_1_method_57_code
def yX7_bestChange : MethodName := ⟨RX7, "bestChange", "(IIIII)I"⟩
abbrev cX7_fitting : ByteArray := prog_1_method_58_code
def yX7_fitting : MethodName := ⟨RX7, "fitting", "(II)I"⟩
abbrev cX7_countLetByTick : ByteArray := prog_1_method_59_code
def yX7_countLetByTick : MethodName := ⟨RX7, "countLetByTick", "([I)V"⟩
abbrev cX7_leftAtWorst : ByteArray := prog_1_method_60_code
def yX7_leftAtWorst : MethodName := ⟨RX7, "leftAtWorst", "(II)I"⟩
abbrev cX7_sharing : ByteArray := prog_1_method_61_code
def yX7_sharing : MethodName := ⟨RX7, "sharing", "(III)I"⟩
abbrev cX7_comesFrom : ByteArray := prog_1_method_62_code
def yX7_comesFrom : MethodName := ⟨RX7, "comesFrom", "(LTokenDoors$Sheet;I)Z"⟩
abbrev cX7_weighAll : ByteArray := prog_1_method_63_code
def yX7_weighAll : MethodName := ⟨RX7, "weighAll", "(IIZ)J"⟩
abbrev cX7_runQuiet : ByteArray := prog_1_method_64_code
def yX7_runQuiet : MethodName := ⟨RX7, "runQuiet", "(II)V"⟩
abbrev cX7_power : ByteArray := prog_1_method_65_code
def yX7_power : MethodName := ⟨RX7, "power", "(II)J"⟩
abbrev cX7_part : ByteArray := prog_1_method_66_code
def yX7_part : MethodName := ⟨RX7, "part", "(JJI)J"⟩
abbrev cX7_commonDivisor : ByteArray := prog_1_method_67_code
def yX7_commonDivisor : MethodName := ⟨RX7, "commonDivisor", "(JJ)J"⟩
def RX8 : String := "TokenDoorsModel"
def TX8 : u_T := fun k => match k with
  | 0 => ("TokenDoorsModel", "state", "[I", true)
  | 1 => ("TokenDoorsModel", "readPage", "[I", true)
  | 2 => ("TokenDoorsModel", "tape", "[I", true)
  | 3 => ("TokenDoorsModel", "taped", "I", false)
  | 4 => ("TokenDoorsModel", "fault", "I", false)
  | 5 => ("TokenDoorsModel", "broken", "I", false)
  | 6 => ("TokenDoorsModel", "brokenAt", "I", false)
  | 7 => ("TokenDoorsModel", "spot", "I", false)
  | 8 => ("TokenDoorsModel", "here", "I", false)
  | 9 => ("TokenDoorsModel", "token", "I", false)
  | 10 => ("TokenDoorsModel", "value", "I", false)
  | 11 => ("TokenDoorsModel", "ends", "[I", true)
  | 12 => ("TokenDoorsModel", "letters", "[I", true)
  | 13 => ("TokenDoorsModel", "opened", "I", false)
  | 14 => ("TokenDoorsModel", "let", "I", false)
  | 15 => ("TokenDoorsModel", "turned", "I", false)
  | 16 => ("TokenDoorsModel", "badTicks", "I", false)
  | 17 => ("TokenDoorsModel", "worstTick", "I", false)
  | 18 => ("TokenDoorsModel", "turnedBy", "[I", true)
  | 19 => ("TokenDoorsModel", "seen", "[I", true)
  | 20 => ("TokenDoorsModel", "seenMany", "I", false)
  | 21 => ("TokenDoorsModel", "letBy", "[I", true)
  | 22 => ("TokenDoorsModel", "isKept", "[Z", true)
  | 23 => ("TokenDoorsModel", "lanes", "[I", true)
  | 24 => ("TokenDoorsModel", "lengths", "[I", true)
  | 25 => ("TokenDoorsModel", "cells", "[I", true)
  | _ => ("TokenDoorsModel", "torn", "I", false)
def tyX8 : Nat → FieldType := fun k => match k with
  | 0 => .array .int
  | 1 => .array .int
  | 2 => .array .int
  | 3 => .int
  | 4 => .int
  | 5 => .int
  | 6 => .int
  | 7 => .int
  | 8 => .int
  | 9 => .int
  | 10 => .int
  | 11 => .array .int
  | 12 => .array .int
  | 13 => .int
  | 14 => .int
  | 15 => .int
  | 16 => .int
  | 17 => .int
  | 18 => .array .int
  | 19 => .array .int
  | 20 => .int
  | 21 => .array .int
  | 22 => .array .boolean
  | 23 => .array .int
  | 24 => .array .int
  | 25 => .array .int
  | _ => .int
abbrev wsX80 : List Cond := u_ws RX8 TX8 27
theorem nmX8 : ∀ a, a < 27 → ∀ b, b < 27 → a ≠ b → (TX8 a).2.1 ≠ (TX8 b).2.1 := by decide +kernel
theorem tyX8_ok : ∀ k, k < 27 → parseFieldDescriptor (TX8 k).2.2.1 = some (tyX8 k) := by decide +kernel
abbrev cX8_init : ByteArray := prog_10_method_1_code
def yX8_init : MethodName := ⟨RX8, "<init>", "()V"⟩
abbrev cX8_in : ByteArray := prog_10_method_3_code
def yX8_in : MethodName := ⟨RX8, "in", "(JJJ)Z"⟩
abbrev cX8_feed : ByteArray := prog_10_method_4_code
def yX8_feed : MethodName := ⟨RX8, "feed", "(I)I"⟩
abbrev cX8_end : ByteArray := prog_10_method_5_code
def yX8_end : MethodName := ⟨RX8, "end", "(I)I"⟩
abbrev cX8_byteAt : ByteArray := prog_10_method_6_code
def yX8_byteAt : MethodName := ⟨RX8, "byteAt", "(I)I"⟩
abbrev cX8_fails : ByteArray := prog_10_method_7_code
def yX8_fails : MethodName := ⟨RX8, "fails", "(I)V"⟩
abbrev cX8_nameHere : ByteArray := prog_10_method_8_code
def yX8_nameHere : MethodName := ⟨RX8, "nameHere", "()I"⟩
abbrev cX8_step : ByteArray := prog_10_method_9_code
def yX8_step : MethodName := ⟨RX8, "step", "()V"⟩
abbrev cX8_number : ByteArray := prog_10_method_10_code
def yX8_number : MethodName := ⟨RX8, "number", "(II)I"⟩
abbrev cX8_readMore : ByteArray := prog_10_method_11_code
def yX8_readMore : MethodName := ⟨RX8, "readMore", "(I)V"⟩
abbrev cX8_readLine : ByteArray := prog_10_method_12_code
def yX8_readLine : MethodName := ⟨RX8, "readLine", "()V"⟩
abbrev cX8_text : ByteArray := prog_10_method_13_code
def yX8_text : MethodName := ⟨RX8, "text", "()I"⟩
abbrev cX8_fault : ByteArray := prog_10_method_14_code
def yX8_fault : MethodName := ⟨RX8, "fault", "()I"⟩
abbrev cX8_isDoor : ByteArray := prog_10_method_15_code
def yX8_isDoor : MethodName := ⟨RX8, "isDoor", "(I)Z"⟩
abbrev cX8_isCrowd : ByteArray := prog_10_method_16_code
def yX8_isCrowd : MethodName := ⟨RX8, "isCrowd", "(I)Z"⟩
abbrev cX8_isLong : ByteArray := prog_10_method_17_code
def yX8_isLong : MethodName := ⟨RX8, "isLong", "(I)Z"⟩
abbrev cX8_roomOn : ByteArray := prog_10_method_18_code
def yX8_roomOn : MethodName := ⟨RX8, "roomOn", "(II)I"⟩
abbrev cX8_starts : ByteArray := prog_10_method_19_code
def yX8_starts : MethodName := ⟨RX8, "starts", "()V"⟩
abbrev cX8_passOn : ByteArray := prog_10_method_20_code
def yX8_passOn : MethodName := ⟨RX8, "passOn", "(I)I"⟩
abbrev cX8_comeOn : ByteArray := prog_10_method_21_code
def yX8_comeOn : MethodName := ⟨RX8, "comeOn", "(I)I"⟩
abbrev cX8_settlesOn : ByteArray := prog_10_method_22_code
def yX8_settlesOn : MethodName := ⟨RX8, "settlesOn", "(II)V"⟩
abbrev cX8_tickOn : ByteArray := prog_10_method_23_code
def yX8_tickOn : MethodName := ⟨RX8, "tickOn", "(II)I"⟩
abbrev cX8_goesOn : ByteArray := prog_10_method_24_code
def yX8_goesOn : MethodName := ⟨RX8, "goesOn", "(I)I"⟩
abbrev cX8_holdOn : ByteArray := prog_10_method_25_code
def yX8_holdOn : MethodName := ⟨RX8, "holdOn", "(I)I"⟩
abbrev cX8_rule : ByteArray := prog_10_method_26_code
def yX8_rule : MethodName := ⟨RX8, "rule", "(I)I"⟩
abbrev cX8_door : ByteArray := prog_10_method_27_code
def yX8_door : MethodName := ⟨RX8, "door", "(II)I"⟩
abbrev cX8_crowd : ByteArray := prog_10_method_28_code
def yX8_crowd : MethodName := ⟨RX8, "crowd", "(II)I"⟩
abbrev cX8_deepOn : ByteArray := prog_10_method_29_code
def yX8_deepOn : MethodName := ⟨RX8, "deepOn", "(III)V"⟩
abbrev cX8_alter : ByteArray := prog_10_method_30_code
def yX8_alter : MethodName := ⟨RX8, "alter", "(III)I"⟩
abbrev cX8_hang : ByteArray := prog_10_method_31_code
def yX8_hang : MethodName := ⟨RX8, "hang", "(III)I"⟩
abbrev cX8_puts : ByteArray := prog_10_method_32_code
def yX8_puts : MethodName := ⟨RX8, "puts", "(ZII)I"⟩
abbrev cX8_cut : ByteArray := prog_10_method_33_code
def yX8_cut : MethodName := ⟨RX8, "cut", "(I)I"⟩
abbrev cX8_comes : ByteArray := prog_10_method_34_code
def yX8_comes : MethodName := ⟨RX8, "comes", "(III)I"⟩
abbrev cX8_come : ByteArray := prog_10_method_35_code
def yX8_come : MethodName := ⟨RX8, "come", "(III)I"⟩
abbrev cX8_leave : ByteArray := prog_10_method_36_code
def yX8_leave : MethodName := ⟨RX8, "leave", "(I)I"⟩
abbrev cX8_pass : ByteArray := prog_10_method_37_code
def yX8_pass : MethodName := ⟨RX8, "pass", "()I"⟩
abbrev cX8_ticks : ByteArray := prog_10_method_38_code
def yX8_ticks : MethodName := ⟨RX8, "ticks", "(I)I"⟩
abbrev cX8_copies : ByteArray := prog_10_method_39_code
def yX8_copies : MethodName := ⟨RX8, "copies", "(II)V"⟩
abbrev cX8_ticksGo : ByteArray := prog_10_method_40_code
def yX8_ticksGo : MethodName := ⟨RX8, "ticksGo", "(II)I"⟩
abbrev cX8_runs : ByteArray := prog_10_method_41_code
def yX8_runs : MethodName := ⟨RX8, "runs", "(II)I"⟩
abbrev cX8_ahead : ByteArray := prog_10_method_42_code
def yX8_ahead : MethodName := ⟨RX8, "ahead", "(II)I"⟩
abbrev cX8_lets : ByteArray := prog_10_method_43_code
def yX8_lets : MethodName := ⟨RX8, "lets", "(I)I"⟩
abbrev cX8_turns : ByteArray := prog_10_method_44_code
def yX8_turns : MethodName := ⟨RX8, "turns", "(II)I"⟩
abbrev cX8_when : ByteArray := prog_10_method_45_code
def yX8_when : MethodName := ⟨RX8, "when", "()I"⟩
abbrev cX8_depth : ByteArray := prog_10_method_46_code
def yX8_depth : MethodName := ⟨RX8, "depth", "(II)I"⟩
abbrev cX8_rate : ByteArray := prog_10_method_47_code
def yX8_rate : MethodName := ⟨RX8, "rate", "(II)I"⟩
abbrev cX8_swap : ByteArray := prog_10_method_48_code
def yX8_swap : MethodName := ⟨RX8, "swap", "(II)I"⟩
abbrev cX8_open : ByteArray := prog_10_method_49_code
def yX8_open : MethodName := ⟨RX8, "open", "(II)I"⟩
abbrev cX8_mostAt : ByteArray := prog_10_method_50_code
def yX8_mostAt : MethodName := ⟨RX8, "mostAt", "(IIII)I"⟩
abbrev cX8_kind : ByteArray := prog_10_method_51_code
def yX8_kind : MethodName := ⟨RX8, "kind", "(III)I"⟩
abbrev cX8_fill : ByteArray := prog_10_method_52_code
def yX8_fill : MethodName := ⟨RX8, "fill", "(III)I"⟩
abbrev cX8_lowest : ByteArray := prog_10_method_53_code
def yX8_lowest : MethodName := ⟨RX8, "lowest", "(JJI)J"⟩
abbrev cX8_byNobody : ByteArray := prog_10_method_54_code
def yX8_byNobody : MethodName := ⟨RX8, "byNobody", "(IIZI)J"⟩
abbrev cX8_luck : ByteArray := prog_10_method_55_code
def yX8_luck : MethodName := ⟨RX8, "luck", "(III)J"⟩
abbrev cX8_mean : ByteArray := prog_10_method_56_code
def yX8_mean : MethodName := ⟨RX8, "mean", "(III)J"⟩
abbrev cX8_see : ByteArray := prog_10_method_57_code
def yX8_see : MethodName := ⟨RX8, "see", "(II)I"⟩
abbrev cX8_forget : ByteArray := prog_10_method_58_code
def yX8_forget : MethodName := ⟨RX8, "forget", "(I)I"⟩
abbrev cX8_isAsSeen : ByteArray := prog_10_method_59_code
def yX8_isAsSeen : MethodName := ⟨RX8, "isAsSeen", "(II)Z"⟩
abbrev cX8_kinds : ByteArray := prog_10_method_60_code
def yX8_kinds : MethodName := ⟨RX8, "kinds", "(I)I"⟩
abbrev cX8_depths : ByteArray := prog_10_method_61_code
def yX8_depths : MethodName := ⟨RX8, "depths", "(I)I"⟩
abbrev cX8_ratesOf : ByteArray := prog_10_method_62_code
def yX8_ratesOf : MethodName := ⟨RX8, "ratesOf", "(I)I"⟩
abbrev cX8_rates : ByteArray := prog_10_method_63_code
def yX8_rates : MethodName := ⟨RX8, "rates", "(I)I"⟩
abbrev cX8_worstAt : ByteArray := prog_10_method_64_code
def yX8_worstAt : MethodName := ⟨RX8, "worstAt", "(II)I"⟩
abbrev cX8_ask : ByteArray := prog_10_method_65_code
def yX8_ask : MethodName := ⟨RX8, "ask", "(II)I"⟩
abbrev cX8_drift : ByteArray := prog_10_method_66_code
def yX8_drift : MethodName := ⟨RX8, "drift", "(III)I"⟩
abbrev cX8_keep : ByteArray := prog_10_method_67_code
def yX8_keep : MethodName := ⟨RX8, "keep", "(I)I"⟩
abbrev cX8_back : ByteArray := prog_10_method_68_code
def yX8_back : MethodName := ⟨RX8, "back", "(I)I"⟩
abbrev cX8_sheet : ByteArray := prog_10_method_69_code
def yX8_sheet : MethodName := ⟨RX8, "sheet", "(III)I"⟩
abbrev cX8_lay : ByteArray := prog_10_method_70_code
def yX8_lay : MethodName := ⟨RX8, "lay", "(III)I"⟩
abbrev cX8_read : ByteArray := prog_10_method_71_code
def yX8_read : MethodName := ⟨RX8, "read", "(IIII)I"⟩
abbrev cX8_torn : ByteArray := prog_10_method_72_code
def yX8_torn : MethodName := ⟨RX8, "torn", "()I"⟩
abbrev cX8_count : ByteArray := prog_10_method_73_code
def yX8_count : MethodName := ⟨RX8, "count", "(I)I"⟩
def RJx145de : String := "java/io/Serializable"
def TJx145de : u_T := fun k => match k with
  | _ => ("", "", "", false)
def tyJx145de : Nat → FieldType := fun k => match k with
  | _ => .int
abbrev wsJx145de0 : List Cond := u_ws RJx145de TJx145de 0
theorem nmJx145de : ∀ a, a < 0 → ∀ b, b < 0 → a ≠ b → (TJx145de a).2.1 ≠ (TJx145de b).2.1 := by decide +kernel
theorem tyJx145de_ok : ∀ k, k < 0 → parseFieldDescriptor (TJx145de k).2.2.1 = some (tyJx145de k) := by decide +kernel
def RJx9f9b0 : String := "java/lang/CharSequence"
def TJx9f9b0 : u_T := fun k => match k with
  | _ => ("", "", "", false)
def tyJx9f9b0 : Nat → FieldType := fun k => match k with
  | _ => .int
abbrev wsJx9f9b00 : List Cond := u_ws RJx9f9b0 TJx9f9b0 0
theorem nmJx9f9b0 : ∀ a, a < 0 → ∀ b, b < 0 → a ≠ b → (TJx9f9b0 a).2.1 ≠ (TJx9f9b0 b).2.1 := by decide +kernel
theorem tyJx9f9b0_ok : ∀ k, k < 0 → parseFieldDescriptor (TJx9f9b0 k).2.2.1 = some (tyJx9f9b0 k) := by decide +kernel
def RJxb160c : String := "java/lang/Comparable"
def TJxb160c : u_T := fun k => match k with
  | _ => ("", "", "", false)
def tyJxb160c : Nat → FieldType := fun k => match k with
  | _ => .int
abbrev wsJxb160c0 : List Cond := u_ws RJxb160c TJxb160c 0
theorem nmJxb160c : ∀ a, a < 0 → ∀ b, b < 0 → a ≠ b → (TJxb160c a).2.1 ≠ (TJxb160c b).2.1 := by decide +kernel
theorem tyJxb160c_ok : ∀ k, k < 0 → parseFieldDescriptor (TJxb160c k).2.2.1 = some (tyJxb160c k) := by decide +kernel
def RJ6 : String := "java/lang/Integer"
def TJ6 : u_T := fun k => match k with
  | _ => ("", "", "", false)
def tyJ6 : Nat → FieldType := fun k => match k with
  | _ => .int
abbrev wsJ60 : List Cond := u_ws RJ6 TJ6 0
theorem nmJ6 : ∀ a, a < 0 → ∀ b, b < 0 → a ≠ b → (TJ6 a).2.1 ≠ (TJ6 b).2.1 := by decide +kernel
theorem tyJ6_ok : ∀ k, k < 0 → parseFieldDescriptor (TJ6 k).2.2.1 = some (tyJ6 k) := by decide +kernel
abbrev cJ6_bitCount_0f7a4 : ByteArray := prog_11_method_49_code
def yJ6_bitCount_0f7a4 : MethodName := ⟨RJ6, "bitCount", "(I)I"⟩
def RJ9 : String := "java/lang/Math"
def TJ9 : u_T := fun k => match k with
  | _ => ("", "", "", false)
def tyJ9 : Nat → FieldType := fun k => match k with
  | _ => .int
abbrev wsJ90 : List Cond := u_ws RJ9 TJ9 0
theorem nmJ9 : ∀ a, a < 0 → ∀ b, b < 0 → a ≠ b → (TJ9 a).2.1 ≠ (TJ9 b).2.1 := by decide +kernel
theorem tyJ9_ok : ∀ k, k < 0 → parseFieldDescriptor (TJ9 k).2.2.1 = some (tyJ9 k) := by decide +kernel
abbrev cJ9_max_7cf53 : ByteArray := prog_12_method_65_code
def yJ9_max_7cf53 : MethodName := ⟨RJ9, "max", "(II)I"⟩
abbrev cJ9_max_f86c9 : ByteArray := prog_12_method_66_code
def yJ9_max_f86c9 : MethodName := ⟨RJ9, "max", "(JJ)J"⟩
abbrev cJ9_min_7cf53 : ByteArray := prog_12_method_69_code
def yJ9_min_7cf53 : MethodName := ⟨RJ9, "min", "(II)I"⟩
def RJ0 : String := "java/lang/String"
def TJ0 : u_T := fun k => match k with
  | _ => ("", "", "", false)
def tyJ0 : Nat → FieldType := fun k => match k with
  | _ => .int
abbrev wsJ00 : List Cond := u_ws RJ0 TJ0 0
theorem nmJ0 : ∀ a, a < 0 → ∀ b, b < 0 → a ≠ b → (TJ0 a).2.1 ≠ (TJ0 b).2.1 := by decide +kernel
theorem tyJ0_ok : ∀ k, k < 0 → parseFieldDescriptor (TJ0 k).2.2.1 = some (tyJ0 k) := by decide +kernel
abbrev cJ0_length_8abf5 : ByteArray := prog_13_method_54_code
def yJ0_length_8abf5 : MethodName := ⟨RJ0, "length", "()I"⟩
abbrev cJ0_charAt_5068e : ByteArray := prog_13_method_56_code
def yJ0_charAt_5068e : MethodName := ⟨RJ0, "charAt", "(I)C"⟩
abbrev cJ0_coder_7d493 : ByteArray := prog_13_method_152_code
def yJ0_coder_7d493 : MethodName := ⟨RJ0, "coder", "()B"⟩
abbrev cJ0_isLatin1_aae02 : ByteArray := prog_13_method_154_code
def yJ0_isLatin1_aae02 : MethodName := ⟨RJ0, "isLatin1", "()Z"⟩
abbrev cJ0_checkIndex_df160 : ByteArray := prog_13_method_155_code
def yJ0_checkIndex_df160 : MethodName := ⟨RJ0, "checkIndex", "(II)V"⟩
def RJ1 : String := "java/lang/StringLatin1"
def TJ1 : u_T := fun k => match k with
  | _ => ("", "", "", false)
def tyJ1 : Nat → FieldType := fun k => match k with
  | _ => .int
abbrev wsJ10 : List Cond := u_ws RJ1 TJ1 0
theorem nmJ1 : ∀ a, a < 0 → ∀ b, b < 0 → a ≠ b → (TJ1 a).2.1 ≠ (TJ1 b).2.1 := by decide +kernel
theorem tyJ1_ok : ∀ k, k < 0 → parseFieldDescriptor (TJ1 k).2.2.1 = some (tyJ1 k) := by decide +kernel
abbrev cJ1_charAt_3b067 : ByteArray := prog_14_method_2_code
def yJ1_charAt_3b067 : MethodName := ⟨RJ1, "charAt", "([BI)C"⟩
def RJ2 : String := "java/lang/StringUTF16"
def TJ2 : u_T := fun k => match k with
  | _ => ("", "", "", false)
def tyJ2 : Nat → FieldType := fun k => match k with
  | _ => .int
abbrev wsJ20 : List Cond := u_ws RJ2 TJ2 0
theorem nmJ2 : ∀ a, a < 0 → ∀ b, b < 0 → a ≠ b → (TJ2 a).2.1 ≠ (TJ2 b).2.1 := by decide +kernel
theorem tyJ2_ok : ∀ k, k < 0 → parseFieldDescriptor (TJ2 k).2.2.1 = some (tyJ2 k) := by decide +kernel
abbrev cJ2_getChar_3b067 : ByteArray := prog_15_method_5_code
def yJ2_getChar_3b067 : MethodName := ⟨RJ2, "getChar", "([BI)C"⟩
abbrev cJ2_length_9d52b : ByteArray := prog_15_method_6_code
def yJ2_length_9d52b : MethodName := ⟨RJ2, "length", "([B)I"⟩
abbrev cJ2_charAt_3b067 : ByteArray := prog_15_method_83_code
def yJ2_charAt_3b067 : MethodName := ⟨RJ2, "charAt", "([BI)C"⟩
abbrev cJ2_checkIndex_2214a : ByteArray := prog_15_method_91_code
def yJ2_checkIndex_2214a : MethodName := ⟨RJ2, "checkIndex", "(I[B)V"⟩
def RJxfd54e : String := "java/lang/constant/Constable"
def TJxfd54e : u_T := fun k => match k with
  | _ => ("", "", "", false)
def tyJxfd54e : Nat → FieldType := fun k => match k with
  | _ => .int
abbrev wsJxfd54e0 : List Cond := u_ws RJxfd54e TJxfd54e 0
theorem nmJxfd54e : ∀ a, a < 0 → ∀ b, b < 0 → a ≠ b → (TJxfd54e a).2.1 ≠ (TJxfd54e b).2.1 := by decide +kernel
theorem tyJxfd54e_ok : ∀ k, k < 0 → parseFieldDescriptor (TJxfd54e k).2.2.1 = some (tyJxfd54e k) := by decide +kernel
def RJx3cf43 : String := "java/lang/constant/ConstantDesc"
def TJx3cf43 : u_T := fun k => match k with
  | _ => ("", "", "", false)
def tyJx3cf43 : Nat → FieldType := fun k => match k with
  | _ => .int
abbrev wsJx3cf430 : List Cond := u_ws RJx3cf43 TJx3cf43 0
theorem nmJx3cf43 : ∀ a, a < 0 → ∀ b, b < 0 → a ≠ b → (TJx3cf43 a).2.1 ≠ (TJx3cf43 b).2.1 := by decide +kernel
theorem tyJx3cf43_ok : ∀ k, k < 0 → parseFieldDescriptor (TJx3cf43 k).2.2.1 = some (tyJx3cf43 k) := by decide +kernel
def RJ7 : String := "java/util/Arrays"
def TJ7 : u_T := fun k => match k with
  | _ => ("", "", "", false)
def tyJ7 : Nat → FieldType := fun k => match k with
  | _ => .int
abbrev wsJ70 : List Cond := u_ws RJ7 TJ7 0
theorem nmJ7 : ∀ a, a < 0 → ∀ b, b < 0 → a ≠ b → (TJ7 a).2.1 ≠ (TJ7 b).2.1 := by decide +kernel
theorem tyJ7_ok : ∀ k, k < 0 → parseFieldDescriptor (TJ7 k).2.2.1 = some (tyJ7 k) := by decide +kernel
abbrev cJ7_fill_53178 : ByteArray := prog_16_method_103_code
def yJ7_fill_53178 : MethodName := ⟨RJ7, "fill", "([II)V"⟩
def RJ3 : String := "jdk/internal/util/Preconditions"
def TJ3 : u_T := fun k => match k with
  | _ => ("", "", "", false)
def tyJ3 : Nat → FieldType := fun k => match k with
  | _ => .int
abbrev wsJ30 : List Cond := u_ws RJ3 TJ3 0
theorem nmJ3 : ∀ a, a < 0 → ∀ b, b < 0 → a ≠ b → (TJ3 a).2.1 ≠ (TJ3 b).2.1 := by decide +kernel
theorem tyJ3_ok : ∀ k, k < 0 → parseFieldDescriptor (TJ3 k).2.2.1 = some (tyJ3 k) := by decide +kernel
abbrev cJ3_checkIndex_8e157 : ByteArray := prog_17_method_11_code
def yJ3_checkIndex_8e157 : MethodName := ⟨RJ3, "checkIndex", "(IILjava/util/function/BiFunction;)I"⟩
def RL : String := "TokenDoorsLaw"
abbrev cL_law : ByteArray := code
def yL_law : MethodName := ⟨RL, "law", "([I)Z"⟩
def wsX0_init : List Cond := .code yX0_init cX0_init 1 none :: ([.methodLink RX0 1 objectInit, .instanceMethod objectInit, .code objectInit ⟨#[0xb1]⟩ 1 none])
def wsX0_make : List Cond := .code yX0_make cX0_make 4 none :: ([.fieldLink RX0 7 "TokenDoors$Crowd" "start" "I", .fieldLink RX0 13 "TokenDoors$Crowd" "many" "I", .fieldLink RX0 16 "TokenDoors$Crowd" "every" "I"] ++ wsX00)
def wsX0_comesAt : List Cond := .code yX0_comesAt cX0_comesAt 2 (some .boolean) :: ([.fieldLink RX0 7 "TokenDoors$Crowd" "start" "I", .fieldLink RX0 16 "TokenDoors$Crowd" "every" "I"] ++ wsX00)
def wsX1_init : List Cond := .code yX1_init cX1_init 1 none :: ([.methodLink RX1 3 objectInit, .instanceMethod objectInit, .code objectInit ⟨#[0xb1]⟩ 1 none])
def wsX1_make : List Cond := .code yX1_make cX1_make 4 none :: ([.fieldLink RX1 9 "TokenDoors$Door" "kind" "I", .fieldLink RX1 15 "TokenDoors$Door" "depth" "I", .fieldLink RX1 18 "TokenDoors$Door" "rate" "I", .fieldLink RX1 21 "TokenDoors$Door" "holds" "I"] ++ wsX10)
def wsX1_become : List Cond := .code yX1_become cX1_become 2 none :: ([.fieldLink RX1 9 "TokenDoors$Door" "kind" "I", .fieldLink RX1 15 "TokenDoors$Door" "depth" "I", .fieldLink RX1 18 "TokenDoors$Door" "rate" "I", .fieldLink RX1 21 "TokenDoors$Door" "holds" "I"] ++ wsX10)
def wsX1_countAnew : List Cond := .code yX1_countAnew cX1_countAnew 1 none :: ([.fieldLink RX1 24 "TokenDoors$Door" "refused" "I", .fieldLink RX1 27 "TokenDoors$Door" "standsOpen" "Z"] ++ wsX10)
def wsX1_told : List Cond := .code yX1_told cX1_told 2 (some .int) :: ([.fieldLink RX1 9 "TokenDoors$Door" "kind" "I", .fieldLink RX1 15 "TokenDoors$Door" "depth" "I", .fieldLink RX1 18 "TokenDoors$Door" "rate" "I", .fieldLink RX1 21 "TokenDoors$Door" "holds" "I"] ++ wsX10)
def wsX1_change : List Cond := .code yX1_change cX1_change 3 none :: ([.fieldLink RX1 9 "TokenDoors$Door" "kind" "I", .fieldLink RX1 15 "TokenDoors$Door" "depth" "I", .fieldLink RX1 18 "TokenDoors$Door" "rate" "I", .fieldLink RX1 21 "TokenDoors$Door" "holds" "I", .methodLink RX1 31 Lib.Math.min.name, .static Lib.Math.min.name, .initialized "java/lang/Math", .code Lib.Math.min.name Lib.Math.min.code 2 (some .int)] ++ wsX10)
def wsX1_room : List Cond := .code yX1_room cX1_room 1 (some .int) :: ([.fieldLink RX1 9 "TokenDoors$Door" "kind" "I", .fieldLink RX1 21 "TokenDoors$Door" "holds" "I", .fieldLink RX1 15 "TokenDoors$Door" "depth" "I"] ++ wsX10)
def wsX1_admit : List Cond := .code yX1_admit cX1_admit 3 (some .int) :: ([.fieldLink RX1 27 "TokenDoors$Door" "standsOpen" "Z", .methodLink RX1 31 Lib.Math.min.name, .static Lib.Math.min.name, .initialized "java/lang/Math", .code Lib.Math.min.name Lib.Math.min.code 2 (some .int), .fieldLink RX1 21 "TokenDoors$Door" "holds" "I", .fieldLink RX1 9 "TokenDoors$Door" "kind" "I", .fieldLink RX1 24 "TokenDoors$Door" "refused" "I", .methodLink RX1 37 yX1_room, .instanceMethod yX1_room, .selects RX1 yX1_room yX1_room, .initialized RX1, .code yX1_room cX1_room 1 (some .int), .fieldLink RX1 15 "TokenDoors$Door" "depth" "I"] ++ wsX10)
def wsX1_settle : List Cond := .code yX1_settle cX1_settle 2 none :: ([.fieldLink RX1 27 "TokenDoors$Door" "standsOpen" "Z", .fieldLink RX1 9 "TokenDoors$Door" "kind" "I", .fieldLink RX1 15 "TokenDoors$Door" "depth" "I", .fieldLink RX1 21 "TokenDoors$Door" "holds" "I", .fieldLink RX1 18 "TokenDoors$Door" "rate" "I", .methodLink RX1 31 Lib.Math.min.name, .static Lib.Math.min.name, .initialized "java/lang/Math", .code Lib.Math.min.name Lib.Math.min.code 2 (some .int), .methodLink RX1 41 Lib.Math.max.name, .static Lib.Math.max.name, .code Lib.Math.max.name Lib.Math.max.code 2 (some .int)] ++ wsX10)
def wsX2_init : List Cond := .code yX2_init cX2_init 2 none :: ([.methodLink RX2 3 objectInit, .instanceMethod objectInit, .code objectInit ⟨#[0xb1]⟩ 1 none, .classLink RX2 9 RX1, .fieldLink RX2 11 "TokenDoors$Hall" "doors" "[LTokenDoors$Door;", .classLink RX2 17 RX0, .fieldLink RX2 19 "TokenDoors$Hall" "crowds" "[LTokenDoors$Crowd;", .instantiable RX1 6, .initialized RX1, .instantiable RX0 3, .initialized RX0, .methodLink RX2 23 yX1_init, .instanceMethod yX1_init, .code yX1_init cX1_init 1 none, .methodLink RX1 3 objectInit, .methodLink RX2 24 yX0_init, .instanceMethod yX0_init, .code yX0_init cX0_init 1 none, .methodLink RX0 1 objectInit] ++ wsX20 ++ wsX10 ++ wsX00)
def wsX2_clear : List Cond := .code yX2_clear cX2_clear 1 none :: ([.fieldLink RX2 25 "TokenDoors$Hall" "doorCount" "I", .fieldLink RX2 29 "TokenDoors$Hall" "crowdCount" "I", .fieldLink RX2 32 "TokenDoors$Hall" "tick" "I", .fieldLink RX2 35 "TokenDoors$Hall" "let" "I", .fieldLink RX2 38 "TokenDoors$Hall" "turned" "I"] ++ wsX20)
def wsX2_become_r1 : List Cond := [Cond.fieldLink RX2 25 "TokenDoors$Hall" "doorCount" "I", Cond.fieldLink RX2 11 "TokenDoors$Hall" "doors" "[LTokenDoors$Door;", Cond.fieldLink RX2 29 "TokenDoors$Hall" "crowdCount" "I", Cond.fieldLink RX2 19 "TokenDoors$Hall" "crowds" "[LTokenDoors$Crowd;", Cond.fieldLink RX2 45 "TokenDoors$Crowd" "start" "I", Cond.fieldLink RX2 48 "TokenDoors$Crowd" "many" "I", Cond.fieldLink RX2 51 "TokenDoors$Crowd" "every" "I", Cond.fieldLink RX2 32 "TokenDoors$Hall" "tick" "I", Cond.fieldLink RX2 35 "TokenDoors$Hall" "let" "I", Cond.fieldLink RX2 38 "TokenDoors$Hall" "turned" "I", Cond.methodLink RX2 41 yX1_become, Cond.instanceMethod yX1_become, Cond.selects RX1 yX1_become yX1_become, Cond.initialized RX1, Cond.code yX1_become cX1_become 2 none, Cond.fieldLink RX1 9 "TokenDoors$Door" "kind" "I", Cond.fieldLink RX1 15 "TokenDoors$Door" "depth" "I", Cond.fieldLink RX1 18 "TokenDoors$Door" "rate" "I", Cond.fieldLink RX1 21 "TokenDoors$Door" "holds" "I", Cond.methodLink RX2 54 yX0_make, Cond.instanceMethod yX0_make, Cond.selects RX0 yX0_make yX0_make, Cond.initialized RX0, Cond.code yX0_make cX0_make 4 none]
def wsX2_become_r2 : List Cond := [Cond.fieldLink RX0 7 "TokenDoors$Crowd" "start" "I", Cond.fieldLink RX0 13 "TokenDoors$Crowd" "many" "I", Cond.fieldLink RX0 16 "TokenDoors$Crowd" "every" "I"]
def wsX2_become : List Cond := .code yX2_become cX2_become 4 none :: ((wsX2_become_r1 ++ wsX2_become_r2) ++ wsX20 ++ wsX00 ++ wsX10)
def wsX2_countAnew : List Cond := .code yX2_countAnew cX2_countAnew 2 none :: ([.fieldLink RX2 35 "TokenDoors$Hall" "let" "I", .fieldLink RX2 38 "TokenDoors$Hall" "turned" "I", .fieldLink RX2 25 "TokenDoors$Hall" "doorCount" "I", .fieldLink RX2 11 "TokenDoors$Hall" "doors" "[LTokenDoors$Door;", .methodLink RX2 58 yX1_countAnew, .instanceMethod yX1_countAnew, .selects RX1 yX1_countAnew yX1_countAnew, .initialized RX1, .code yX1_countAnew cX1_countAnew 1 none, .fieldLink RX1 24 "TokenDoors$Door" "refused" "I", .fieldLink RX1 27 "TokenDoors$Door" "standsOpen" "Z"] ++ wsX20 ++ wsX10)
def wsX2_addDoor : List Cond := .code yX2_addDoor cX2_addDoor 4 (some .boolean) :: ([.fieldLink RX2 25 "TokenDoors$Hall" "doorCount" "I", .fieldLink RX2 11 "TokenDoors$Hall" "doors" "[LTokenDoors$Door;", .methodLink RX2 61 yX1_make, .instanceMethod yX1_make, .selects RX1 yX1_make yX1_make, .initialized RX1, .code yX1_make cX1_make 4 none, .fieldLink RX1 9 "TokenDoors$Door" "kind" "I", .fieldLink RX1 15 "TokenDoors$Door" "depth" "I", .fieldLink RX1 18 "TokenDoors$Door" "rate" "I", .fieldLink RX1 21 "TokenDoors$Door" "holds" "I"] ++ wsX20 ++ wsX10)
def wsX2_addCrowd : List Cond := .code yX2_addCrowd cX2_addCrowd 4 (some .boolean) :: ([.fieldLink RX2 29 "TokenDoors$Hall" "crowdCount" "I", .fieldLink RX2 19 "TokenDoors$Hall" "crowds" "[LTokenDoors$Crowd;", .methodLink RX2 54 yX0_make, .instanceMethod yX0_make, .selects RX0 yX0_make yX0_make, .initialized RX0, .code yX0_make cX0_make 4 none, .fieldLink RX0 7 "TokenDoors$Crowd" "start" "I", .fieldLink RX0 13 "TokenDoors$Crowd" "many" "I", .fieldLink RX0 16 "TokenDoors$Crowd" "every" "I"] ++ wsX20 ++ wsX00)
def wsX2_exchange : List Cond := .code yX2_exchange cX2_exchange 4 none :: ([.fieldLink RX2 11 "TokenDoors$Hall" "doors" "[LTokenDoors$Door;"] ++ wsX20)
def wsX2_comers : List Cond := .code yX2_comers cX2_comers 3 (some .int) :: ([.fieldLink RX2 29 "TokenDoors$Hall" "crowdCount" "I", .fieldLink RX2 19 "TokenDoors$Hall" "crowds" "[LTokenDoors$Crowd;", .fieldLink RX2 32 "TokenDoors$Hall" "tick" "I", .fieldLink RX2 48 "TokenDoors$Crowd" "many" "I", .methodLink RX2 62 yX0_comesAt, .instanceMethod yX0_comesAt, .selects RX0 yX0_comesAt yX0_comesAt, .initialized RX0, .code yX0_comesAt cX0_comesAt 2 (some .boolean), .fieldLink RX0 7 "TokenDoors$Crowd" "start" "I", .fieldLink RX0 16 "TokenDoors$Crowd" "every" "I"] ++ wsX20 ++ wsX00)
def wsX2_letters : List Cond := .code yX2_letters cX2_letters 3 (some .int) :: ([.fieldLink RX2 25 "TokenDoors$Hall" "doorCount" "I", .fieldLink RX2 11 "TokenDoors$Hall" "doors" "[LTokenDoors$Door;", .methodLink RX2 66 yX1_room, .instanceMethod yX1_room, .selects RX1 yX1_room yX1_room, .initialized RX1, .code yX1_room cX1_room 1 (some .int), .fieldLink RX1 9 "TokenDoors$Door" "kind" "I", .fieldLink RX1 21 "TokenDoors$Door" "holds" "I", .fieldLink RX1 15 "TokenDoors$Door" "depth" "I"] ++ wsX20 ++ wsX10)
def wsX2_firstShut : List Cond := .code yX2_firstShut cX2_firstShut 2 (some .int) :: ([.fieldLink RX2 25 "TokenDoors$Hall" "doorCount" "I", .fieldLink RX2 11 "TokenDoors$Hall" "doors" "[LTokenDoors$Door;", .methodLink RX2 66 yX1_room, .instanceMethod yX1_room, .selects RX1 yX1_room yX1_room, .initialized RX1, .code yX1_room cX1_room 1 (some .int), .fieldLink RX1 9 "TokenDoors$Door" "kind" "I", .fieldLink RX1 21 "TokenDoors$Door" "holds" "I", .fieldLink RX1 15 "TokenDoors$Door" "depth" "I"] ++ wsX20 ++ wsX10)
def wsX2_admit : List Cond := .code yX2_admit cX2_admit 4 (some .int) :: ([.fieldLink RX2 25 "TokenDoors$Hall" "doorCount" "I", .fieldLink RX2 11 "TokenDoors$Hall" "doors" "[LTokenDoors$Door;", .constant RX2 74 (99999), .fieldLink RX2 35 "TokenDoors$Hall" "let" "I", .methodLink RX2 75 Lib.Math.min.name, .static Lib.Math.min.name, .initialized "java/lang/Math", .code Lib.Math.min.name Lib.Math.min.code 2 (some .int), .fieldLink RX2 38 "TokenDoors$Hall" "turned" "I", .methodLink RX2 70 yX1_admit, .instanceMethod yX1_admit, .selects RX1 yX1_admit yX1_admit, .initialized RX1, .code yX1_admit cX1_admit 3 (some .int), .fieldLink RX1 27 "TokenDoors$Door" "standsOpen" "Z", .methodLink RX1 31 Lib.Math.min.name, .fieldLink RX1 21 "TokenDoors$Door" "holds" "I", .fieldLink RX1 9 "TokenDoors$Door" "kind" "I", .fieldLink RX1 24 "TokenDoors$Door" "refused" "I", .methodLink RX1 37 yX1_room, .instanceMethod yX1_room, .selects RX1 yX1_room yX1_room, .code yX1_room cX1_room 1 (some .int), .fieldLink RX1 15 "TokenDoors$Door" "depth" "I"] ++ wsX20 ++ wsX10)
def wsX2_tickWith_r1 : List Cond := [Cond.fieldLink RX2 25 "TokenDoors$Hall" "doorCount" "I", Cond.fieldLink RX2 11 "TokenDoors$Hall" "doors" "[LTokenDoors$Door;", Cond.fieldLink RX2 32 "TokenDoors$Hall" "tick" "I", Cond.methodLink RX2 81 yX2_admit, Cond.instanceMethod yX2_admit, Cond.selects RX2 yX2_admit yX2_admit, Cond.initialized RX2, Cond.code yX2_admit cX2_admit 4 (some .int), Cond.constant RX2 74 (99999), Cond.fieldLink RX2 35 "TokenDoors$Hall" "let" "I", Cond.methodLink RX2 75 Lib.Math.min.name, Cond.static Lib.Math.min.name, Cond.initialized "java/lang/Math", Cond.code Lib.Math.min.name Lib.Math.min.code 2 (some .int), Cond.fieldLink RX2 38 "TokenDoors$Hall" "turned" "I", Cond.methodLink RX2 70 yX1_admit, Cond.instanceMethod yX1_admit, Cond.selects RX1 yX1_admit yX1_admit, Cond.initialized RX1, Cond.code yX1_admit cX1_admit 3 (some .int), Cond.fieldLink RX1 27 "TokenDoors$Door" "standsOpen" "Z", Cond.methodLink RX1 31 Lib.Math.min.name, Cond.fieldLink RX1 21 "TokenDoors$Door" "holds" "I", Cond.fieldLink RX1 9 "TokenDoors$Door" "kind" "I"]
def wsX2_tickWith_r2 : List Cond := [Cond.fieldLink RX1 24 "TokenDoors$Door" "refused" "I", Cond.methodLink RX1 37 yX1_room, Cond.instanceMethod yX1_room, Cond.selects RX1 yX1_room yX1_room, Cond.code yX1_room cX1_room 1 (some .int), Cond.fieldLink RX1 15 "TokenDoors$Door" "depth" "I", Cond.methodLink RX2 82 yX1_settle, Cond.instanceMethod yX1_settle, Cond.selects RX1 yX1_settle yX1_settle, Cond.code yX1_settle cX1_settle 2 none, Cond.fieldLink RX1 18 "TokenDoors$Door" "rate" "I", Cond.methodLink RX1 41 Lib.Math.max.name, Cond.static Lib.Math.max.name, Cond.code Lib.Math.max.name Lib.Math.max.code 2 (some .int)]
def wsX2_tickWith : List Cond := .code yX2_tickWith cX2_tickWith 4 (some .int) :: ((wsX2_tickWith_r1 ++ wsX2_tickWith_r2) ++ wsX20 ++ wsX10)
def wsX2_tickOn_r1 : List Cond := [Cond.methodLink RX2 86 yX2_comers, Cond.instanceMethod yX2_comers, Cond.selects RX2 yX2_comers yX2_comers, Cond.initialized RX2, Cond.code yX2_comers cX2_comers 3 (some .int), Cond.fieldLink RX2 29 "TokenDoors$Hall" "crowdCount" "I", Cond.fieldLink RX2 19 "TokenDoors$Hall" "crowds" "[LTokenDoors$Crowd;", Cond.fieldLink RX2 32 "TokenDoors$Hall" "tick" "I", Cond.fieldLink RX2 48 "TokenDoors$Crowd" "many" "I", Cond.methodLink RX2 62 yX0_comesAt, Cond.instanceMethod yX0_comesAt, Cond.selects RX0 yX0_comesAt yX0_comesAt, Cond.initialized RX0, Cond.code yX0_comesAt cX0_comesAt 2 (some .boolean), Cond.fieldLink RX0 7 "TokenDoors$Crowd" "start" "I", Cond.fieldLink RX0 16 "TokenDoors$Crowd" "every" "I", Cond.methodLink RX2 89 yX2_tickWith, Cond.instanceMethod yX2_tickWith, Cond.selects RX2 yX2_tickWith yX2_tickWith, Cond.code yX2_tickWith cX2_tickWith 4 (some .int), Cond.fieldLink RX2 25 "TokenDoors$Hall" "doorCount" "I", Cond.fieldLink RX2 11 "TokenDoors$Hall" "doors" "[LTokenDoors$Door;", Cond.methodLink RX2 81 yX2_admit, Cond.instanceMethod yX2_admit]
def wsX2_tickOn_r2 : List Cond := [Cond.selects RX2 yX2_admit yX2_admit, Cond.code yX2_admit cX2_admit 4 (some .int), Cond.constant RX2 74 (99999), Cond.fieldLink RX2 35 "TokenDoors$Hall" "let" "I", Cond.methodLink RX2 75 Lib.Math.min.name, Cond.static Lib.Math.min.name, Cond.initialized "java/lang/Math", Cond.code Lib.Math.min.name Lib.Math.min.code 2 (some .int), Cond.fieldLink RX2 38 "TokenDoors$Hall" "turned" "I", Cond.methodLink RX2 70 yX1_admit, Cond.instanceMethod yX1_admit, Cond.selects RX1 yX1_admit yX1_admit, Cond.initialized RX1, Cond.code yX1_admit cX1_admit 3 (some .int), Cond.fieldLink RX1 27 "TokenDoors$Door" "standsOpen" "Z", Cond.methodLink RX1 31 Lib.Math.min.name, Cond.fieldLink RX1 21 "TokenDoors$Door" "holds" "I", Cond.fieldLink RX1 9 "TokenDoors$Door" "kind" "I", Cond.fieldLink RX1 24 "TokenDoors$Door" "refused" "I", Cond.methodLink RX1 37 yX1_room, Cond.instanceMethod yX1_room, Cond.selects RX1 yX1_room yX1_room, Cond.code yX1_room cX1_room 1 (some .int), Cond.fieldLink RX1 15 "TokenDoors$Door" "depth" "I"]
def wsX2_tickOn_r3 : List Cond := [Cond.methodLink RX2 82 yX1_settle, Cond.instanceMethod yX1_settle, Cond.selects RX1 yX1_settle yX1_settle, Cond.code yX1_settle cX1_settle 2 none, Cond.fieldLink RX1 18 "TokenDoors$Door" "rate" "I", Cond.methodLink RX1 41 Lib.Math.max.name, Cond.static Lib.Math.max.name, Cond.code Lib.Math.max.name Lib.Math.max.code 2 (some .int)]
def wsX2_tickOn : List Cond := .code yX2_tickOn cX2_tickOn 1 (some .int) :: ((wsX2_tickOn_r1 ++ (wsX2_tickOn_r2 ++ wsX2_tickOn_r3)) ++ wsX20 ++ wsX00 ++ wsX10)
def wsX2_runOn_r1 : List Cond := [Cond.methodLink RX2 92 yX2_tickOn, Cond.instanceMethod yX2_tickOn, Cond.selects RX2 yX2_tickOn yX2_tickOn, Cond.initialized RX2, Cond.code yX2_tickOn cX2_tickOn 1 (some .int), Cond.methodLink RX2 86 yX2_comers, Cond.instanceMethod yX2_comers, Cond.selects RX2 yX2_comers yX2_comers, Cond.code yX2_comers cX2_comers 3 (some .int), Cond.fieldLink RX2 29 "TokenDoors$Hall" "crowdCount" "I", Cond.fieldLink RX2 19 "TokenDoors$Hall" "crowds" "[LTokenDoors$Crowd;", Cond.fieldLink RX2 32 "TokenDoors$Hall" "tick" "I", Cond.fieldLink RX2 48 "TokenDoors$Crowd" "many" "I", Cond.methodLink RX2 62 yX0_comesAt, Cond.instanceMethod yX0_comesAt, Cond.selects RX0 yX0_comesAt yX0_comesAt, Cond.initialized RX0, Cond.code yX0_comesAt cX0_comesAt 2 (some .boolean), Cond.fieldLink RX0 7 "TokenDoors$Crowd" "start" "I", Cond.fieldLink RX0 16 "TokenDoors$Crowd" "every" "I", Cond.methodLink RX2 89 yX2_tickWith, Cond.instanceMethod yX2_tickWith, Cond.selects RX2 yX2_tickWith yX2_tickWith, Cond.code yX2_tickWith cX2_tickWith 4 (some .int)]
def wsX2_runOn_r2 : List Cond := [Cond.fieldLink RX2 25 "TokenDoors$Hall" "doorCount" "I", Cond.fieldLink RX2 11 "TokenDoors$Hall" "doors" "[LTokenDoors$Door;", Cond.methodLink RX2 81 yX2_admit, Cond.instanceMethod yX2_admit, Cond.selects RX2 yX2_admit yX2_admit, Cond.code yX2_admit cX2_admit 4 (some .int), Cond.constant RX2 74 (99999), Cond.fieldLink RX2 35 "TokenDoors$Hall" "let" "I", Cond.methodLink RX2 75 Lib.Math.min.name, Cond.static Lib.Math.min.name, Cond.initialized "java/lang/Math", Cond.code Lib.Math.min.name Lib.Math.min.code 2 (some .int), Cond.fieldLink RX2 38 "TokenDoors$Hall" "turned" "I", Cond.methodLink RX2 70 yX1_admit, Cond.instanceMethod yX1_admit, Cond.selects RX1 yX1_admit yX1_admit, Cond.initialized RX1, Cond.code yX1_admit cX1_admit 3 (some .int), Cond.fieldLink RX1 27 "TokenDoors$Door" "standsOpen" "Z", Cond.methodLink RX1 31 Lib.Math.min.name, Cond.fieldLink RX1 21 "TokenDoors$Door" "holds" "I", Cond.fieldLink RX1 9 "TokenDoors$Door" "kind" "I", Cond.fieldLink RX1 24 "TokenDoors$Door" "refused" "I", Cond.methodLink RX1 37 yX1_room]
def wsX2_runOn_r3 : List Cond := [Cond.instanceMethod yX1_room, Cond.selects RX1 yX1_room yX1_room, Cond.code yX1_room cX1_room 1 (some .int), Cond.fieldLink RX1 15 "TokenDoors$Door" "depth" "I", Cond.methodLink RX2 82 yX1_settle, Cond.instanceMethod yX1_settle, Cond.selects RX1 yX1_settle yX1_settle, Cond.code yX1_settle cX1_settle 2 none, Cond.fieldLink RX1 18 "TokenDoors$Door" "rate" "I", Cond.methodLink RX1 41 Lib.Math.max.name, Cond.static Lib.Math.max.name, Cond.code Lib.Math.max.name Lib.Math.max.code 2 (some .int)]
def wsX2_runOn : List Cond := .code yX2_runOn cX2_runOn 4 (some .int) :: ((wsX2_runOn_r1 ++ (wsX2_runOn_r2 ++ wsX2_runOn_r3)) ++ wsX20 ++ wsX00 ++ wsX10)
def wsX2_heldByAll : List Cond := .code yX2_heldByAll cX2_heldByAll 3 (some .int) :: ([.fieldLink RX2 25 "TokenDoors$Hall" "doorCount" "I", .fieldLink RX2 11 "TokenDoors$Hall" "doors" "[LTokenDoors$Door;", .fieldLink RX2 95 "TokenDoors$Door" "holds" "I"] ++ wsX20 ++ wsX10)
def wsX2_depthOfAll : List Cond := .code yX2_depthOfAll cX2_depthOfAll 3 (some .int) :: ([.fieldLink RX2 25 "TokenDoors$Hall" "doorCount" "I", .fieldLink RX2 11 "TokenDoors$Hall" "doors" "[LTokenDoors$Door;", .fieldLink RX2 98 "TokenDoors$Door" "depth" "I"] ++ wsX20 ++ wsX10)
def wsX2_manyOfAll : List Cond := .code yX2_manyOfAll cX2_manyOfAll 3 (some .int) :: ([.fieldLink RX2 29 "TokenDoors$Hall" "crowdCount" "I", .fieldLink RX2 19 "TokenDoors$Hall" "crowds" "[LTokenDoors$Crowd;", .fieldLink RX2 48 "TokenDoors$Crowd" "many" "I"] ++ wsX20 ++ wsX00)
def wsX3_init : List Cond := .code yX3_init cX3_init 1 none :: ([.methodLink RX3 3 objectInit, .instanceMethod objectInit, .code objectInit ⟨#[0xb1]⟩ 1 none, .arrayClass .int, .fieldLink RX3 9 "TokenDoors$Seen" "inTick" "[I", .fieldLink RX3 15 "TokenDoors$Seen" "let" "[I"] ++ wsX30)
def wsX3_add : List Cond := .code yX3_add cX3_add 3 (some .boolean) :: ([.fieldLink RX3 18 "TokenDoors$Seen" "size" "I", .fieldLink RX3 9 "TokenDoors$Seen" "inTick" "[I", .fieldLink RX3 15 "TokenDoors$Seen" "let" "[I"] ++ wsX30)
def wsX3_agreesWith : List Cond := .code yX3_agreesWith cX3_agreesWith 3 (some .boolean) :: ([.fieldLink RX3 18 "TokenDoors$Seen" "size" "I", .fieldLink RX3 9 "TokenDoors$Seen" "inTick" "[I", .fieldLink RX3 15 "TokenDoors$Seen" "let" "[I"] ++ wsX30)
def wsX4_init : List Cond := .code yX4_init cX4_init 1 none :: ([.methodLink RX4 3 objectInit, .instanceMethod objectInit, .code objectInit ⟨#[0xb1]⟩ 1 none, .arrayClass .int, .fieldLink RX4 9 "TokenDoors$Sheet" "cells" "[I"] ++ wsX40)
def wsJ7_fill_53178 : List Cond := .code yJ7_fill_53178 cJ7_fill_53178 4 none :: ([])
def wsX4_renew : List Cond := .code yX4_renew cX4_renew 3 none :: ([.fieldLink RX4 15 "TokenDoors$Sheet" "laid" "Z", .fieldLink RX4 19 "TokenDoors$Sheet" "lane" "I", .fieldLink RX4 23 "TokenDoors$Sheet" "size" "I", .fieldLink RX4 9 "TokenDoors$Sheet" "cells" "[I", .methodLink RX4 26 yJ7_fill_53178, .static yJ7_fill_53178, .initialized RJ7, .code yJ7_fill_53178 cJ7_fill_53178 4 none] ++ wsX40)
def wsX4_put : List Cond := .code yX4_put cX4_put 3 none :: ([.fieldLink RX4 19 "TokenDoors$Sheet" "lane" "I", .fieldLink RX4 9 "TokenDoors$Sheet" "cells" "[I"] ++ wsX40)
def wsX4_faultAt : List Cond := .code yX4_faultAt cX4_faultAt 2 (some .int) :: ([.fieldLink RX4 15 "TokenDoors$Sheet" "laid" "Z", .fieldLink RX4 23 "TokenDoors$Sheet" "size" "I"] ++ wsX40)
def wsX4_faultInThree : List Cond := .code yX4_faultInThree cX4_faultInThree 4 (some .int) :: ([.fieldLink RX4 15 "TokenDoors$Sheet" "laid" "Z", .fieldLink RX4 19 "TokenDoors$Sheet" "lane" "I", .methodLink RX4 32 yX4_faultAt, .instanceMethod yX4_faultAt, .selects RX4 yX4_faultAt yX4_faultAt, .initialized RX4, .code yX4_faultAt cX4_faultAt 2 (some .int), .fieldLink RX4 23 "TokenDoors$Sheet" "size" "I"] ++ wsX40)
def wsX5_init : List Cond := .code yX5_init cX5_init 1 none :: ([.methodLink RX5 3 objectInit, .instanceMethod objectInit, .code objectInit ⟨#[0xb1]⟩ 1 none, .arrayClass .byte, .fieldLink RX5 9 "TokenDoors$Tape" "bytes" "[B"] ++ wsX50)
def wsX5_append : List Cond := .code yX5_append cX5_append 2 (some .boolean) :: ([.fieldLink RX5 15 "TokenDoors$Tape" "length" "I", .fieldLink RX5 9 "TokenDoors$Tape" "bytes" "[B"] ++ wsX50)
def wsX5_isLetter : List Cond := .code yX5_isLetter cX5_isLetter 1 (some .boolean) :: ([])
def wsX5_takeName : List Cond := .code yX5_takeName cX5_takeName 1 (some .int) :: ([.fieldLink RX5 19 "TokenDoors$Tape" "next" "I", .fieldLink RX5 15 "TokenDoors$Tape" "length" "I", .fieldLink RX5 9 "TokenDoors$Tape" "bytes" "[B", .methodLink RX5 25 yX5_isLetter, .static yX5_isLetter, .initialized RX5, .code yX5_isLetter cX5_isLetter 1 (some .boolean)] ++ wsX50)
def wsX5_isFigure : List Cond := .code yX5_isFigure cX5_isFigure 1 (some .boolean) :: ([])
def wsX5_takeNumber : List Cond := .code yX5_takeNumber cX5_takeNumber 1 (some .int) :: ([.fieldLink RX5 39 "TokenDoors$Tape" "value" "I", .fieldLink RX5 19 "TokenDoors$Tape" "next" "I", .fieldLink RX5 15 "TokenDoors$Tape" "length" "I", .fieldLink RX5 9 "TokenDoors$Tape" "bytes" "[B", .fieldLink RX5 22 "TokenDoors$Tape" "start" "I", .methodLink RX5 33 yX5_isFigure, .static yX5_isFigure, .initialized RX5, .code yX5_isFigure cX5_isFigure 1 (some .boolean)] ++ wsX50)
def wsX5_advance : List Cond := .code yX5_advance cX5_advance 1 (some .int) :: ([.fieldLink RX5 19 "TokenDoors$Tape" "next" "I", .fieldLink RX5 15 "TokenDoors$Tape" "length" "I", .fieldLink RX5 9 "TokenDoors$Tape" "bytes" "[B", .fieldLink RX5 22 "TokenDoors$Tape" "start" "I", .methodLink RX5 25 yX5_isLetter, .static yX5_isLetter, .initialized RX5, .code yX5_isLetter cX5_isLetter 1 (some .boolean), .methodLink RX5 29 yX5_takeName, .instanceMethod yX5_takeName, .selects RX5 yX5_takeName yX5_takeName, .code yX5_takeName cX5_takeName 1 (some .int), .methodLink RX5 33 yX5_isFigure, .static yX5_isFigure, .code yX5_isFigure cX5_isFigure 1 (some .boolean), .methodLink RX5 36 yX5_takeNumber, .instanceMethod yX5_takeNumber, .selects RX5 yX5_takeNumber yX5_takeNumber, .code yX5_takeNumber cX5_takeNumber 1 (some .int), .fieldLink RX5 39 "TokenDoors$Tape" "value" "I"] ++ wsX50)
def wsJ0_coder_7d493 : List Cond := .code yJ0_coder_7d493 cJ0_coder_7d493 1 (some .byte) :: ([.fieldLink RJ0 38 "java/lang/String" "COMPACT_STRINGS" "Z", .fieldLink RJ0 15 "java/lang/String" "coder" "B"])
def wsJ0_length_8abf5 : List Cond := .code yJ0_length_8abf5 cJ0_length_8abf5 1 (some .int) :: ([.fieldLink RJ0 9 "java/lang/String" "value" "[B", .methodLink RJ0 335 yJ0_coder_7d493, .instanceMethod yJ0_coder_7d493, .selects RJ0 yJ0_coder_7d493 yJ0_coder_7d493, .initialized RJ0, .code yJ0_coder_7d493 cJ0_coder_7d493 1 (some .byte), .fieldLink RJ0 38 "java/lang/String" "COMPACT_STRINGS" "Z", .fieldLink RJ0 15 "java/lang/String" "coder" "B"])
def wsJ0_isLatin1_aae02 : List Cond := .code yJ0_isLatin1_aae02 cJ0_isLatin1_aae02 1 (some .boolean) :: ([.fieldLink RJ0 38 "java/lang/String" "COMPACT_STRINGS" "Z", .fieldLink RJ0 15 "java/lang/String" "coder" "B"])
def wsJ3_checkIndex_8e157 : List Cond := .code yJ3_checkIndex_8e157 cJ3_checkIndex_8e157 3 (some .int) :: ([])
def wsJ0_checkIndex_df160 : List Cond := .code yJ0_checkIndex_df160 cJ0_checkIndex_df160 2 none :: ([.fieldLink RJ0 1053 "jdk/internal/util/Preconditions" "SIOOBE_FORMATTER" "Ljava/util/function/BiFunction;", .methodLink RJ0 1059 yJ3_checkIndex_8e157, .static yJ3_checkIndex_8e157, .initialized RJ3, .code yJ3_checkIndex_8e157 cJ3_checkIndex_8e157 3 (some .int)])
def wsJ1_charAt_3b067 : List Cond := .code yJ1_charAt_3b067 cJ1_charAt_3b067 2 (some .char) :: ([.methodLink RJ1 9 yJ0_checkIndex_df160, .static yJ0_checkIndex_df160, .initialized RJ0, .code yJ0_checkIndex_df160 cJ0_checkIndex_df160 2 none, .fieldLink RJ0 1053 "jdk/internal/util/Preconditions" "SIOOBE_FORMATTER" "Ljava/util/function/BiFunction;", .methodLink RJ0 1059 yJ3_checkIndex_8e157, .static yJ3_checkIndex_8e157, .initialized RJ3, .code yJ3_checkIndex_8e157 cJ3_checkIndex_8e157 3 (some .int)])
def wsJ2_length_9d52b : List Cond := .code yJ2_length_9d52b cJ2_length_9d52b 1 (some .int) :: ([])
def wsJ2_checkIndex_2214a : List Cond := .code yJ2_checkIndex_2214a cJ2_checkIndex_2214a 2 none :: ([.methodLink RJ2 48 yJ2_length_9d52b, .static yJ2_length_9d52b, .initialized RJ2, .code yJ2_length_9d52b cJ2_length_9d52b 1 (some .int), .methodLink RJ2 414 yJ0_checkIndex_df160, .static yJ0_checkIndex_df160, .initialized RJ0, .code yJ0_checkIndex_df160 cJ0_checkIndex_df160 2 none, .fieldLink RJ0 1053 "jdk/internal/util/Preconditions" "SIOOBE_FORMATTER" "Ljava/util/function/BiFunction;", .methodLink RJ0 1059 yJ3_checkIndex_8e157, .static yJ3_checkIndex_8e157, .initialized RJ3, .code yJ3_checkIndex_8e157 cJ3_checkIndex_8e157 3 (some .int)])
def wsJ2_getChar_3b067 : List Cond := .code yJ2_getChar_3b067 cJ2_getChar_3b067 2 (some .char) :: ([.fieldLink RJ2 44 "java/lang/StringUTF16" "$assertionsDisabled" "Z", .fieldLink RJ2 59 "java/lang/StringUTF16" "HI_BYTE_SHIFT" "I", .fieldLink RJ2 63 "java/lang/StringUTF16" "LO_BYTE_SHIFT" "I", .methodLink RJ2 48 yJ2_length_9d52b, .static yJ2_length_9d52b, .initialized RJ2, .code yJ2_length_9d52b cJ2_length_9d52b 1 (some .int)])
def wsJ2_charAt_3b067 : List Cond := .code yJ2_charAt_3b067 cJ2_charAt_3b067 2 (some .char) :: ([.methodLink RJ2 67 yJ2_checkIndex_2214a, .static yJ2_checkIndex_2214a, .initialized RJ2, .code yJ2_checkIndex_2214a cJ2_checkIndex_2214a 2 none, .methodLink RJ2 48 yJ2_length_9d52b, .static yJ2_length_9d52b, .code yJ2_length_9d52b cJ2_length_9d52b 1 (some .int), .methodLink RJ2 414 yJ0_checkIndex_df160, .static yJ0_checkIndex_df160, .initialized RJ0, .code yJ0_checkIndex_df160 cJ0_checkIndex_df160 2 none, .fieldLink RJ0 1053 "jdk/internal/util/Preconditions" "SIOOBE_FORMATTER" "Ljava/util/function/BiFunction;", .methodLink RJ0 1059 yJ3_checkIndex_8e157, .static yJ3_checkIndex_8e157, .initialized RJ3, .code yJ3_checkIndex_8e157 cJ3_checkIndex_8e157 3 (some .int), .methodLink RJ2 71 yJ2_getChar_3b067, .static yJ2_getChar_3b067, .code yJ2_getChar_3b067 cJ2_getChar_3b067 2 (some .char), .fieldLink RJ2 44 "java/lang/StringUTF16" "$assertionsDisabled" "Z", .fieldLink RJ2 59 "java/lang/StringUTF16" "HI_BYTE_SHIFT" "I", .fieldLink RJ2 63 "java/lang/StringUTF16" "LO_BYTE_SHIFT" "I"])
def wsJ0_charAt_5068e_r1 : List Cond := [Cond.fieldLink RJ0 9 "java/lang/String" "value" "[B", Cond.methodLink RJ0 492 yJ0_isLatin1_aae02, Cond.instanceMethod yJ0_isLatin1_aae02, Cond.selects RJ0 yJ0_isLatin1_aae02 yJ0_isLatin1_aae02, Cond.initialized RJ0, Cond.code yJ0_isLatin1_aae02 cJ0_isLatin1_aae02 1 (some .boolean), Cond.fieldLink RJ0 38 "java/lang/String" "COMPACT_STRINGS" "Z", Cond.fieldLink RJ0 15 "java/lang/String" "coder" "B", Cond.methodLink RJ0 495 yJ1_charAt_3b067, Cond.static yJ1_charAt_3b067, Cond.initialized RJ1, Cond.code yJ1_charAt_3b067 cJ1_charAt_3b067 2 (some .char), Cond.methodLink RJ1 9 yJ0_checkIndex_df160, Cond.static yJ0_checkIndex_df160, Cond.code yJ0_checkIndex_df160 cJ0_checkIndex_df160 2 none, Cond.fieldLink RJ0 1053 "jdk/internal/util/Preconditions" "SIOOBE_FORMATTER" "Ljava/util/function/BiFunction;", Cond.methodLink RJ0 1059 yJ3_checkIndex_8e157, Cond.static yJ3_checkIndex_8e157, Cond.initialized RJ3, Cond.code yJ3_checkIndex_8e157 cJ3_checkIndex_8e157 3 (some .int), Cond.methodLink RJ0 498 yJ2_charAt_3b067, Cond.static yJ2_charAt_3b067, Cond.initialized RJ2, Cond.code yJ2_charAt_3b067 cJ2_charAt_3b067 2 (some .char)]
def wsJ0_charAt_5068e_r2 : List Cond := [Cond.methodLink RJ2 67 yJ2_checkIndex_2214a, Cond.static yJ2_checkIndex_2214a, Cond.code yJ2_checkIndex_2214a cJ2_checkIndex_2214a 2 none, Cond.methodLink RJ2 48 yJ2_length_9d52b, Cond.static yJ2_length_9d52b, Cond.code yJ2_length_9d52b cJ2_length_9d52b 1 (some .int), Cond.methodLink RJ2 414 yJ0_checkIndex_df160, Cond.methodLink RJ2 71 yJ2_getChar_3b067, Cond.static yJ2_getChar_3b067, Cond.code yJ2_getChar_3b067 cJ2_getChar_3b067 2 (some .char), Cond.fieldLink RJ2 44 "java/lang/StringUTF16" "$assertionsDisabled" "Z", Cond.fieldLink RJ2 59 "java/lang/StringUTF16" "HI_BYTE_SHIFT" "I", Cond.fieldLink RJ2 63 "java/lang/StringUTF16" "LO_BYTE_SHIFT" "I"]
def wsJ0_charAt_5068e : List Cond := .code yJ0_charAt_5068e cJ0_charAt_5068e 2 (some .char) :: ((wsJ0_charAt_5068e_r1 ++ wsJ0_charAt_5068e_r2))
def wsX5_nameIs_r1 : List Cond := [Cond.fieldLink RX5 19 "TokenDoors$Tape" "next" "I", Cond.fieldLink RX5 22 "TokenDoors$Tape" "start" "I", Cond.fieldLink RX5 9 "TokenDoors$Tape" "bytes" "[B", Cond.methodLink RX5 42 yJ0_length_8abf5, Cond.instanceMethod yJ0_length_8abf5, Cond.selects RJ0 yJ0_length_8abf5 yJ0_length_8abf5, Cond.initialized RJ0, Cond.code yJ0_length_8abf5 cJ0_length_8abf5 1 (some .int), Cond.fieldLink RJ0 9 "java/lang/String" "value" "[B", Cond.methodLink RJ0 335 yJ0_coder_7d493, Cond.instanceMethod yJ0_coder_7d493, Cond.selects RJ0 yJ0_coder_7d493 yJ0_coder_7d493, Cond.code yJ0_coder_7d493 cJ0_coder_7d493 1 (some .byte), Cond.fieldLink RJ0 38 "java/lang/String" "COMPACT_STRINGS" "Z", Cond.fieldLink RJ0 15 "java/lang/String" "coder" "B", Cond.methodLink RX5 46 yJ0_charAt_5068e, Cond.instanceMethod yJ0_charAt_5068e, Cond.selects RJ0 yJ0_charAt_5068e yJ0_charAt_5068e, Cond.code yJ0_charAt_5068e cJ0_charAt_5068e 2 (some .char), Cond.methodLink RJ0 492 yJ0_isLatin1_aae02, Cond.instanceMethod yJ0_isLatin1_aae02, Cond.selects RJ0 yJ0_isLatin1_aae02 yJ0_isLatin1_aae02, Cond.code yJ0_isLatin1_aae02 cJ0_isLatin1_aae02 1 (some .boolean), Cond.methodLink RJ0 495 yJ1_charAt_3b067]
def wsX5_nameIs_r2 : List Cond := [Cond.static yJ1_charAt_3b067, Cond.initialized RJ1, Cond.code yJ1_charAt_3b067 cJ1_charAt_3b067 2 (some .char), Cond.methodLink RJ1 9 yJ0_checkIndex_df160, Cond.static yJ0_checkIndex_df160, Cond.code yJ0_checkIndex_df160 cJ0_checkIndex_df160 2 none, Cond.fieldLink RJ0 1053 "jdk/internal/util/Preconditions" "SIOOBE_FORMATTER" "Ljava/util/function/BiFunction;", Cond.methodLink RJ0 1059 yJ3_checkIndex_8e157, Cond.static yJ3_checkIndex_8e157, Cond.initialized RJ3, Cond.code yJ3_checkIndex_8e157 cJ3_checkIndex_8e157 3 (some .int), Cond.methodLink RJ0 498 yJ2_charAt_3b067, Cond.static yJ2_charAt_3b067, Cond.initialized RJ2, Cond.code yJ2_charAt_3b067 cJ2_charAt_3b067 2 (some .char), Cond.methodLink RJ2 67 yJ2_checkIndex_2214a, Cond.static yJ2_checkIndex_2214a, Cond.code yJ2_checkIndex_2214a cJ2_checkIndex_2214a 2 none, Cond.methodLink RJ2 48 yJ2_length_9d52b, Cond.static yJ2_length_9d52b, Cond.code yJ2_length_9d52b cJ2_length_9d52b 1 (some .int), Cond.methodLink RJ2 414 yJ0_checkIndex_df160, Cond.methodLink RJ2 71 yJ2_getChar_3b067, Cond.static yJ2_getChar_3b067]
def wsX5_nameIs_r3 : List Cond := [Cond.code yJ2_getChar_3b067 cJ2_getChar_3b067 2 (some .char), Cond.fieldLink RJ2 44 "java/lang/StringUTF16" "$assertionsDisabled" "Z", Cond.fieldLink RJ2 59 "java/lang/StringUTF16" "HI_BYTE_SHIFT" "I", Cond.fieldLink RJ2 63 "java/lang/StringUTF16" "LO_BYTE_SHIFT" "I"]
def wsX5_nameIs : List Cond := .code yX5_nameIs cX5_nameIs 3 (some .boolean) :: ((wsX5_nameIs_r1 ++ (wsX5_nameIs_r2 ++ wsX5_nameIs_r3)) ++ wsX50)
def wsX6_init : List Cond := .code yX6_init cX6_init 3 none :: ([.methodLink RX6 3 objectInit, .instanceMethod objectInit, .code objectInit ⟨#[0xb1]⟩ 1 none, .fieldLink RX6 9 "TokenDoors$Teller" "tape" "LTokenDoors$Tape;", .fieldLink RX6 15 "TokenDoors$Teller" "draft" "LTokenDoors$Hall;"] ++ wsX60)
def wsX6_fail : List Cond := .code yX6_fail cX6_fail 2 (some .boolean) :: ([.fieldLink RX6 24 "TokenDoors$Teller" "found" "I"] ++ wsX60)
def wsX6_expect : List Cond := .code yX6_expect cX6_expect 3 (some .boolean) :: ([.methodLink RX6 48 yX6_fail, .instanceMethod yX6_fail, .selects RX6 yX6_fail yX6_fail, .initialized RX6, .code yX6_fail cX6_fail 2 (some .boolean), .fieldLink RX6 24 "TokenDoors$Teller" "found" "I"] ++ wsX60)
def wsX6_lineBegun_r1 : List Cond := [Cond.fieldLink RX6 9 "TokenDoors$Teller" "tape" "LTokenDoors$Tape;", Cond.methodLink RX6 60 yX5_nameIs, Cond.instanceMethod yX5_nameIs, Cond.selects RX5 yX5_nameIs yX5_nameIs, Cond.initialized RX5, Cond.code yX5_nameIs cX5_nameIs 3 (some .boolean), Cond.fieldLink RX5 19 "TokenDoors$Tape" "next" "I", Cond.fieldLink RX5 22 "TokenDoors$Tape" "start" "I", Cond.fieldLink RX5 9 "TokenDoors$Tape" "bytes" "[B", Cond.methodLink RX5 42 yJ0_length_8abf5, Cond.instanceMethod yJ0_length_8abf5, Cond.selects RJ0 yJ0_length_8abf5 yJ0_length_8abf5, Cond.initialized RJ0, Cond.code yJ0_length_8abf5 cJ0_length_8abf5 1 (some .int), Cond.fieldLink RJ0 9 "java/lang/String" "value" "[B", Cond.methodLink RJ0 335 yJ0_coder_7d493, Cond.instanceMethod yJ0_coder_7d493, Cond.selects RJ0 yJ0_coder_7d493 yJ0_coder_7d493, Cond.code yJ0_coder_7d493 cJ0_coder_7d493 1 (some .byte), Cond.fieldLink RJ0 38 "java/lang/String" "COMPACT_STRINGS" "Z", Cond.fieldLink RJ0 15 "java/lang/String" "coder" "B", Cond.methodLink RX5 46 yJ0_charAt_5068e, Cond.instanceMethod yJ0_charAt_5068e, Cond.selects RJ0 yJ0_charAt_5068e yJ0_charAt_5068e]
def wsX6_lineBegun_r2 : List Cond := [Cond.code yJ0_charAt_5068e cJ0_charAt_5068e 2 (some .char), Cond.methodLink RJ0 492 yJ0_isLatin1_aae02, Cond.instanceMethod yJ0_isLatin1_aae02, Cond.selects RJ0 yJ0_isLatin1_aae02 yJ0_isLatin1_aae02, Cond.code yJ0_isLatin1_aae02 cJ0_isLatin1_aae02 1 (some .boolean), Cond.methodLink RJ0 495 yJ1_charAt_3b067, Cond.static yJ1_charAt_3b067, Cond.initialized RJ1, Cond.code yJ1_charAt_3b067 cJ1_charAt_3b067 2 (some .char), Cond.methodLink RJ1 9 yJ0_checkIndex_df160, Cond.static yJ0_checkIndex_df160, Cond.code yJ0_checkIndex_df160 cJ0_checkIndex_df160 2 none, Cond.fieldLink RJ0 1053 "jdk/internal/util/Preconditions" "SIOOBE_FORMATTER" "Ljava/util/function/BiFunction;", Cond.methodLink RJ0 1059 yJ3_checkIndex_8e157, Cond.static yJ3_checkIndex_8e157, Cond.initialized RJ3, Cond.code yJ3_checkIndex_8e157 cJ3_checkIndex_8e157 3 (some .int), Cond.methodLink RJ0 498 yJ2_charAt_3b067, Cond.static yJ2_charAt_3b067, Cond.initialized RJ2, Cond.code yJ2_charAt_3b067 cJ2_charAt_3b067 2 (some .char), Cond.methodLink RJ2 67 yJ2_checkIndex_2214a, Cond.static yJ2_checkIndex_2214a, Cond.code yJ2_checkIndex_2214a cJ2_checkIndex_2214a 2 none]
def wsX6_lineBegun_r3 : List Cond := [Cond.methodLink RJ2 48 yJ2_length_9d52b, Cond.static yJ2_length_9d52b, Cond.code yJ2_length_9d52b cJ2_length_9d52b 1 (some .int), Cond.methodLink RJ2 414 yJ0_checkIndex_df160, Cond.methodLink RJ2 71 yJ2_getChar_3b067, Cond.static yJ2_getChar_3b067, Cond.code yJ2_getChar_3b067 cJ2_getChar_3b067 2 (some .char), Cond.fieldLink RJ2 44 "java/lang/StringUTF16" "$assertionsDisabled" "Z", Cond.fieldLink RJ2 59 "java/lang/StringUTF16" "HI_BYTE_SHIFT" "I", Cond.fieldLink RJ2 63 "java/lang/StringUTF16" "LO_BYTE_SHIFT" "I"]
def wsX6_lineBegun : List Cond := .code yX6_lineBegun cX6_lineBegun 1 (some .int) :: ((wsX6_lineBegun_r1 ++ (wsX6_lineBegun_r2 ++ wsX6_lineBegun_r3)) ++ wsX60 ++ wsX50)
def wsX6_takeNumber_r1 : List Cond := [Cond.fieldLink RX6 9 "TokenDoors$Teller" "tape" "LTokenDoors$Tape;", Cond.fieldLink RX6 78 "TokenDoors$Tape" "value" "I", Cond.methodLink RX6 33 yX5_advance, Cond.instanceMethod yX5_advance, Cond.selects RX5 yX5_advance yX5_advance, Cond.initialized RX5, Cond.code yX5_advance cX5_advance 1 (some .int), Cond.fieldLink RX5 19 "TokenDoors$Tape" "next" "I", Cond.fieldLink RX5 15 "TokenDoors$Tape" "length" "I", Cond.fieldLink RX5 9 "TokenDoors$Tape" "bytes" "[B", Cond.fieldLink RX5 22 "TokenDoors$Tape" "start" "I", Cond.methodLink RX5 25 yX5_isLetter, Cond.static yX5_isLetter, Cond.code yX5_isLetter cX5_isLetter 1 (some .boolean), Cond.methodLink RX5 29 yX5_takeName, Cond.instanceMethod yX5_takeName, Cond.selects RX5 yX5_takeName yX5_takeName, Cond.code yX5_takeName cX5_takeName 1 (some .int), Cond.methodLink RX5 33 yX5_isFigure, Cond.static yX5_isFigure, Cond.code yX5_isFigure cX5_isFigure 1 (some .boolean), Cond.methodLink RX5 36 yX5_takeNumber, Cond.instanceMethod yX5_takeNumber, Cond.selects RX5 yX5_takeNumber yX5_takeNumber]
def wsX6_takeNumber_r2 : List Cond := [Cond.code yX5_takeNumber cX5_takeNumber 1 (some .int), Cond.fieldLink RX5 39 "TokenDoors$Tape" "value" "I", Cond.methodLink RX6 41 yX6_expect, Cond.instanceMethod yX6_expect, Cond.selects RX6 yX6_expect yX6_expect, Cond.initialized RX6, Cond.code yX6_expect cX6_expect 3 (some .boolean), Cond.methodLink RX6 48 yX6_fail, Cond.instanceMethod yX6_fail, Cond.selects RX6 yX6_fail yX6_fail, Cond.code yX6_fail cX6_fail 2 (some .boolean), Cond.fieldLink RX6 24 "TokenDoors$Teller" "found" "I"]
def wsX6_takeNumber : List Cond := .code yX6_takeNumber cX6_takeNumber 3 (some .boolean) :: ((wsX6_takeNumber_r1 ++ wsX6_takeNumber_r2) ++ wsX60 ++ wsX50)
def wsX6_takeStop_r1 : List Cond := [Cond.fieldLink RX6 9 "TokenDoors$Teller" "tape" "LTokenDoors$Tape;", Cond.methodLink RX6 33 yX5_advance, Cond.instanceMethod yX5_advance, Cond.selects RX5 yX5_advance yX5_advance, Cond.initialized RX5, Cond.code yX5_advance cX5_advance 1 (some .int), Cond.fieldLink RX5 19 "TokenDoors$Tape" "next" "I", Cond.fieldLink RX5 15 "TokenDoors$Tape" "length" "I", Cond.fieldLink RX5 9 "TokenDoors$Tape" "bytes" "[B", Cond.fieldLink RX5 22 "TokenDoors$Tape" "start" "I", Cond.methodLink RX5 25 yX5_isLetter, Cond.static yX5_isLetter, Cond.code yX5_isLetter cX5_isLetter 1 (some .boolean), Cond.methodLink RX5 29 yX5_takeName, Cond.instanceMethod yX5_takeName, Cond.selects RX5 yX5_takeName yX5_takeName, Cond.code yX5_takeName cX5_takeName 1 (some .int), Cond.methodLink RX5 33 yX5_isFigure, Cond.static yX5_isFigure, Cond.code yX5_isFigure cX5_isFigure 1 (some .boolean), Cond.methodLink RX5 36 yX5_takeNumber, Cond.instanceMethod yX5_takeNumber, Cond.selects RX5 yX5_takeNumber yX5_takeNumber, Cond.code yX5_takeNumber cX5_takeNumber 1 (some .int)]
def wsX6_takeStop_r2 : List Cond := [Cond.fieldLink RX5 39 "TokenDoors$Tape" "value" "I", Cond.methodLink RX6 41 yX6_expect, Cond.instanceMethod yX6_expect, Cond.selects RX6 yX6_expect yX6_expect, Cond.initialized RX6, Cond.code yX6_expect cX6_expect 3 (some .boolean), Cond.methodLink RX6 48 yX6_fail, Cond.instanceMethod yX6_fail, Cond.selects RX6 yX6_fail yX6_fail, Cond.code yX6_fail cX6_fail 2 (some .boolean), Cond.fieldLink RX6 24 "TokenDoors$Teller" "found" "I"]
def wsX6_takeStop : List Cond := .code yX6_takeStop cX6_takeStop 1 (some .boolean) :: ((wsX6_takeStop_r1 ++ wsX6_takeStop_r2) ++ wsX60 ++ wsX50)
def wsX6_tellCrowd_r1 : List Cond := [Cond.fieldLink RX6 15 "TokenDoors$Teller" "draft" "LTokenDoors$Hall;", Cond.fieldLink RX6 88 "TokenDoors$Hall" "crowdCount" "I", Cond.fieldLink RX6 9 "TokenDoors$Teller" "tape" "LTokenDoors$Tape;", Cond.fieldLink RX6 78 "TokenDoors$Tape" "value" "I", Cond.methodLink RX6 48 yX6_fail, Cond.instanceMethod yX6_fail, Cond.selects RX6 yX6_fail yX6_fail, Cond.initialized RX6, Cond.code yX6_fail cX6_fail 2 (some .boolean), Cond.fieldLink RX6 24 "TokenDoors$Teller" "found" "I", Cond.methodLink RX6 75 yX6_takeNumber, Cond.instanceMethod yX6_takeNumber, Cond.selects RX6 yX6_takeNumber yX6_takeNumber, Cond.code yX6_takeNumber cX6_takeNumber 3 (some .boolean), Cond.methodLink RX6 33 yX5_advance, Cond.instanceMethod yX5_advance, Cond.selects RX5 yX5_advance yX5_advance, Cond.initialized RX5, Cond.code yX5_advance cX5_advance 1 (some .int), Cond.fieldLink RX5 19 "TokenDoors$Tape" "next" "I", Cond.fieldLink RX5 15 "TokenDoors$Tape" "length" "I", Cond.fieldLink RX5 9 "TokenDoors$Tape" "bytes" "[B", Cond.fieldLink RX5 22 "TokenDoors$Tape" "start" "I", Cond.methodLink RX5 25 yX5_isLetter]
def wsX6_tellCrowd_r2 : List Cond := [Cond.static yX5_isLetter, Cond.code yX5_isLetter cX5_isLetter 1 (some .boolean), Cond.methodLink RX5 29 yX5_takeName, Cond.instanceMethod yX5_takeName, Cond.selects RX5 yX5_takeName yX5_takeName, Cond.code yX5_takeName cX5_takeName 1 (some .int), Cond.methodLink RX5 33 yX5_isFigure, Cond.static yX5_isFigure, Cond.code yX5_isFigure cX5_isFigure 1 (some .boolean), Cond.methodLink RX5 36 yX5_takeNumber, Cond.instanceMethod yX5_takeNumber, Cond.selects RX5 yX5_takeNumber yX5_takeNumber, Cond.code yX5_takeNumber cX5_takeNumber 1 (some .int), Cond.fieldLink RX5 39 "TokenDoors$Tape" "value" "I", Cond.methodLink RX6 41 yX6_expect, Cond.instanceMethod yX6_expect, Cond.selects RX6 yX6_expect yX6_expect, Cond.code yX6_expect cX6_expect 3 (some .boolean), Cond.methodLink RX6 81 yX6_takeStop, Cond.instanceMethod yX6_takeStop, Cond.selects RX6 yX6_takeStop yX6_takeStop, Cond.code yX6_takeStop cX6_takeStop 1 (some .boolean), Cond.methodLink RX6 91 yX2_addCrowd, Cond.instanceMethod yX2_addCrowd]
def wsX6_tellCrowd_r3 : List Cond := [Cond.selects RX2 yX2_addCrowd yX2_addCrowd, Cond.initialized RX2, Cond.code yX2_addCrowd cX2_addCrowd 4 (some .boolean), Cond.fieldLink RX2 29 "TokenDoors$Hall" "crowdCount" "I", Cond.fieldLink RX2 19 "TokenDoors$Hall" "crowds" "[LTokenDoors$Crowd;", Cond.methodLink RX2 54 yX0_make, Cond.instanceMethod yX0_make, Cond.selects RX0 yX0_make yX0_make, Cond.initialized RX0, Cond.code yX0_make cX0_make 4 none, Cond.fieldLink RX0 7 "TokenDoors$Crowd" "start" "I", Cond.fieldLink RX0 13 "TokenDoors$Crowd" "many" "I", Cond.fieldLink RX0 16 "TokenDoors$Crowd" "every" "I"]
def wsX6_tellCrowd : List Cond := .code yX6_tellCrowd cX6_tellCrowd 4 (some .boolean) :: ((wsX6_tellCrowd_r1 ++ (wsX6_tellCrowd_r2 ++ wsX6_tellCrowd_r3)) ++ wsX60 ++ wsX20 ++ wsX50 ++ wsX00)
def wsX6_tellDoor_r1 : List Cond := [Cond.fieldLink RX6 15 "TokenDoors$Teller" "draft" "LTokenDoors$Hall;", Cond.fieldLink RX6 72 "TokenDoors$Hall" "doorCount" "I", Cond.fieldLink RX6 9 "TokenDoors$Teller" "tape" "LTokenDoors$Tape;", Cond.fieldLink RX6 78 "TokenDoors$Tape" "value" "I", Cond.methodLink RX6 48 yX6_fail, Cond.instanceMethod yX6_fail, Cond.selects RX6 yX6_fail yX6_fail, Cond.initialized RX6, Cond.code yX6_fail cX6_fail 2 (some .boolean), Cond.fieldLink RX6 24 "TokenDoors$Teller" "found" "I", Cond.methodLink RX6 75 yX6_takeNumber, Cond.instanceMethod yX6_takeNumber, Cond.selects RX6 yX6_takeNumber yX6_takeNumber, Cond.code yX6_takeNumber cX6_takeNumber 3 (some .boolean), Cond.methodLink RX6 33 yX5_advance, Cond.instanceMethod yX5_advance, Cond.selects RX5 yX5_advance yX5_advance, Cond.initialized RX5, Cond.code yX5_advance cX5_advance 1 (some .int), Cond.fieldLink RX5 19 "TokenDoors$Tape" "next" "I", Cond.fieldLink RX5 15 "TokenDoors$Tape" "length" "I", Cond.fieldLink RX5 9 "TokenDoors$Tape" "bytes" "[B", Cond.fieldLink RX5 22 "TokenDoors$Tape" "start" "I", Cond.methodLink RX5 25 yX5_isLetter]
def wsX6_tellDoor_r2 : List Cond := [Cond.static yX5_isLetter, Cond.code yX5_isLetter cX5_isLetter 1 (some .boolean), Cond.methodLink RX5 29 yX5_takeName, Cond.instanceMethod yX5_takeName, Cond.selects RX5 yX5_takeName yX5_takeName, Cond.code yX5_takeName cX5_takeName 1 (some .int), Cond.methodLink RX5 33 yX5_isFigure, Cond.static yX5_isFigure, Cond.code yX5_isFigure cX5_isFigure 1 (some .boolean), Cond.methodLink RX5 36 yX5_takeNumber, Cond.instanceMethod yX5_takeNumber, Cond.selects RX5 yX5_takeNumber yX5_takeNumber, Cond.code yX5_takeNumber cX5_takeNumber 1 (some .int), Cond.fieldLink RX5 39 "TokenDoors$Tape" "value" "I", Cond.methodLink RX6 41 yX6_expect, Cond.instanceMethod yX6_expect, Cond.selects RX6 yX6_expect yX6_expect, Cond.code yX6_expect cX6_expect 3 (some .boolean), Cond.methodLink RX6 81 yX6_takeStop, Cond.instanceMethod yX6_takeStop, Cond.selects RX6 yX6_takeStop yX6_takeStop, Cond.code yX6_takeStop cX6_takeStop 1 (some .boolean), Cond.methodLink RX6 84 yX2_addDoor, Cond.instanceMethod yX2_addDoor]
def wsX6_tellDoor_r3 : List Cond := [Cond.selects RX2 yX2_addDoor yX2_addDoor, Cond.initialized RX2, Cond.code yX2_addDoor cX2_addDoor 4 (some .boolean), Cond.fieldLink RX2 25 "TokenDoors$Hall" "doorCount" "I", Cond.fieldLink RX2 11 "TokenDoors$Hall" "doors" "[LTokenDoors$Door;", Cond.methodLink RX2 61 yX1_make, Cond.instanceMethod yX1_make, Cond.selects RX1 yX1_make yX1_make, Cond.initialized RX1, Cond.code yX1_make cX1_make 4 none, Cond.fieldLink RX1 9 "TokenDoors$Door" "kind" "I", Cond.fieldLink RX1 15 "TokenDoors$Door" "depth" "I", Cond.fieldLink RX1 18 "TokenDoors$Door" "rate" "I", Cond.fieldLink RX1 21 "TokenDoors$Door" "holds" "I"]
def wsX6_tellDoor : List Cond := .code yX6_tellDoor cX6_tellDoor 4 (some .boolean) :: ((wsX6_tellDoor_r1 ++ (wsX6_tellDoor_r2 ++ wsX6_tellDoor_r3)) ++ wsX60 ++ wsX20 ++ wsX50 ++ wsX10)
def wsX6_tellLine_r1 : List Cond := [Cond.methodLink RX6 41 yX6_expect, Cond.instanceMethod yX6_expect, Cond.selects RX6 yX6_expect yX6_expect, Cond.initialized RX6, Cond.code yX6_expect cX6_expect 3 (some .boolean), Cond.methodLink RX6 48 yX6_fail, Cond.instanceMethod yX6_fail, Cond.selects RX6 yX6_fail yX6_fail, Cond.code yX6_fail cX6_fail 2 (some .boolean), Cond.fieldLink RX6 24 "TokenDoors$Teller" "found" "I", Cond.methodLink RX6 45 yX6_lineBegun, Cond.instanceMethod yX6_lineBegun, Cond.selects RX6 yX6_lineBegun yX6_lineBegun, Cond.code yX6_lineBegun cX6_lineBegun 1 (some .int), Cond.fieldLink RX6 9 "TokenDoors$Teller" "tape" "LTokenDoors$Tape;", Cond.methodLink RX6 60 yX5_nameIs, Cond.instanceMethod yX5_nameIs, Cond.selects RX5 yX5_nameIs yX5_nameIs, Cond.initialized RX5, Cond.code yX5_nameIs cX5_nameIs 3 (some .boolean), Cond.fieldLink RX5 19 "TokenDoors$Tape" "next" "I", Cond.fieldLink RX5 22 "TokenDoors$Tape" "start" "I", Cond.fieldLink RX5 9 "TokenDoors$Tape" "bytes" "[B", Cond.methodLink RX5 42 yJ0_length_8abf5]
def wsX6_tellLine_r2 : List Cond := [Cond.instanceMethod yJ0_length_8abf5, Cond.selects RJ0 yJ0_length_8abf5 yJ0_length_8abf5, Cond.initialized RJ0, Cond.code yJ0_length_8abf5 cJ0_length_8abf5 1 (some .int), Cond.fieldLink RJ0 9 "java/lang/String" "value" "[B", Cond.methodLink RJ0 335 yJ0_coder_7d493, Cond.instanceMethod yJ0_coder_7d493, Cond.selects RJ0 yJ0_coder_7d493 yJ0_coder_7d493, Cond.code yJ0_coder_7d493 cJ0_coder_7d493 1 (some .byte), Cond.fieldLink RJ0 38 "java/lang/String" "COMPACT_STRINGS" "Z", Cond.fieldLink RJ0 15 "java/lang/String" "coder" "B", Cond.methodLink RX5 46 yJ0_charAt_5068e, Cond.instanceMethod yJ0_charAt_5068e, Cond.selects RJ0 yJ0_charAt_5068e yJ0_charAt_5068e, Cond.code yJ0_charAt_5068e cJ0_charAt_5068e 2 (some .char), Cond.methodLink RJ0 492 yJ0_isLatin1_aae02, Cond.instanceMethod yJ0_isLatin1_aae02, Cond.selects RJ0 yJ0_isLatin1_aae02 yJ0_isLatin1_aae02, Cond.code yJ0_isLatin1_aae02 cJ0_isLatin1_aae02 1 (some .boolean), Cond.methodLink RJ0 495 yJ1_charAt_3b067, Cond.static yJ1_charAt_3b067, Cond.initialized RJ1, Cond.code yJ1_charAt_3b067 cJ1_charAt_3b067 2 (some .char), Cond.methodLink RJ1 9 yJ0_checkIndex_df160]
def wsX6_tellLine_r3 : List Cond := [Cond.static yJ0_checkIndex_df160, Cond.code yJ0_checkIndex_df160 cJ0_checkIndex_df160 2 none, Cond.fieldLink RJ0 1053 "jdk/internal/util/Preconditions" "SIOOBE_FORMATTER" "Ljava/util/function/BiFunction;", Cond.methodLink RJ0 1059 yJ3_checkIndex_8e157, Cond.static yJ3_checkIndex_8e157, Cond.initialized RJ3, Cond.code yJ3_checkIndex_8e157 cJ3_checkIndex_8e157 3 (some .int), Cond.methodLink RJ0 498 yJ2_charAt_3b067, Cond.static yJ2_charAt_3b067, Cond.initialized RJ2, Cond.code yJ2_charAt_3b067 cJ2_charAt_3b067 2 (some .char), Cond.methodLink RJ2 67 yJ2_checkIndex_2214a, Cond.static yJ2_checkIndex_2214a, Cond.code yJ2_checkIndex_2214a cJ2_checkIndex_2214a 2 none, Cond.methodLink RJ2 48 yJ2_length_9d52b, Cond.static yJ2_length_9d52b, Cond.code yJ2_length_9d52b cJ2_length_9d52b 1 (some .int), Cond.methodLink RJ2 414 yJ0_checkIndex_df160, Cond.methodLink RJ2 71 yJ2_getChar_3b067, Cond.static yJ2_getChar_3b067, Cond.code yJ2_getChar_3b067 cJ2_getChar_3b067 2 (some .char), Cond.fieldLink RJ2 44 "java/lang/StringUTF16" "$assertionsDisabled" "Z", Cond.fieldLink RJ2 59 "java/lang/StringUTF16" "HI_BYTE_SHIFT" "I", Cond.fieldLink RJ2 63 "java/lang/StringUTF16" "LO_BYTE_SHIFT" "I"]
def wsX6_tellLine_r4 : List Cond := [Cond.methodLink RX6 51 yX6_tellCrowd, Cond.instanceMethod yX6_tellCrowd, Cond.selects RX6 yX6_tellCrowd yX6_tellCrowd, Cond.code yX6_tellCrowd cX6_tellCrowd 4 (some .boolean), Cond.fieldLink RX6 15 "TokenDoors$Teller" "draft" "LTokenDoors$Hall;", Cond.fieldLink RX6 88 "TokenDoors$Hall" "crowdCount" "I", Cond.fieldLink RX6 78 "TokenDoors$Tape" "value" "I", Cond.methodLink RX6 75 yX6_takeNumber, Cond.instanceMethod yX6_takeNumber, Cond.selects RX6 yX6_takeNumber yX6_takeNumber, Cond.code yX6_takeNumber cX6_takeNumber 3 (some .boolean), Cond.methodLink RX6 33 yX5_advance, Cond.instanceMethod yX5_advance, Cond.selects RX5 yX5_advance yX5_advance, Cond.code yX5_advance cX5_advance 1 (some .int), Cond.fieldLink RX5 15 "TokenDoors$Tape" "length" "I", Cond.methodLink RX5 25 yX5_isLetter, Cond.static yX5_isLetter, Cond.code yX5_isLetter cX5_isLetter 1 (some .boolean), Cond.methodLink RX5 29 yX5_takeName, Cond.instanceMethod yX5_takeName, Cond.selects RX5 yX5_takeName yX5_takeName, Cond.code yX5_takeName cX5_takeName 1 (some .int), Cond.methodLink RX5 33 yX5_isFigure]
def wsX6_tellLine_r5 : List Cond := [Cond.static yX5_isFigure, Cond.code yX5_isFigure cX5_isFigure 1 (some .boolean), Cond.methodLink RX5 36 yX5_takeNumber, Cond.instanceMethod yX5_takeNumber, Cond.selects RX5 yX5_takeNumber yX5_takeNumber, Cond.code yX5_takeNumber cX5_takeNumber 1 (some .int), Cond.fieldLink RX5 39 "TokenDoors$Tape" "value" "I", Cond.methodLink RX6 81 yX6_takeStop, Cond.instanceMethod yX6_takeStop, Cond.selects RX6 yX6_takeStop yX6_takeStop, Cond.code yX6_takeStop cX6_takeStop 1 (some .boolean), Cond.methodLink RX6 91 yX2_addCrowd, Cond.instanceMethod yX2_addCrowd, Cond.selects RX2 yX2_addCrowd yX2_addCrowd, Cond.initialized RX2, Cond.code yX2_addCrowd cX2_addCrowd 4 (some .boolean), Cond.fieldLink RX2 29 "TokenDoors$Hall" "crowdCount" "I", Cond.fieldLink RX2 19 "TokenDoors$Hall" "crowds" "[LTokenDoors$Crowd;", Cond.methodLink RX2 54 yX0_make, Cond.instanceMethod yX0_make, Cond.selects RX0 yX0_make yX0_make, Cond.initialized RX0, Cond.code yX0_make cX0_make 4 none, Cond.fieldLink RX0 7 "TokenDoors$Crowd" "start" "I"]
def wsX6_tellLine_r6 : List Cond := [Cond.fieldLink RX0 13 "TokenDoors$Crowd" "many" "I", Cond.fieldLink RX0 16 "TokenDoors$Crowd" "every" "I", Cond.methodLink RX6 55 yX6_tellDoor, Cond.instanceMethod yX6_tellDoor, Cond.selects RX6 yX6_tellDoor yX6_tellDoor, Cond.code yX6_tellDoor cX6_tellDoor 4 (some .boolean), Cond.fieldLink RX6 72 "TokenDoors$Hall" "doorCount" "I", Cond.methodLink RX6 84 yX2_addDoor, Cond.instanceMethod yX2_addDoor, Cond.selects RX2 yX2_addDoor yX2_addDoor, Cond.code yX2_addDoor cX2_addDoor 4 (some .boolean), Cond.fieldLink RX2 25 "TokenDoors$Hall" "doorCount" "I", Cond.fieldLink RX2 11 "TokenDoors$Hall" "doors" "[LTokenDoors$Door;", Cond.methodLink RX2 61 yX1_make, Cond.instanceMethod yX1_make, Cond.selects RX1 yX1_make yX1_make, Cond.initialized RX1, Cond.code yX1_make cX1_make 4 none, Cond.fieldLink RX1 9 "TokenDoors$Door" "kind" "I", Cond.fieldLink RX1 15 "TokenDoors$Door" "depth" "I", Cond.fieldLink RX1 18 "TokenDoors$Door" "rate" "I", Cond.fieldLink RX1 21 "TokenDoors$Door" "holds" "I"]
def wsX6_tellLine : List Cond := .code yX6_tellLine cX6_tellLine 3 (some .boolean) :: ((wsX6_tellLine_r1 ++ (wsX6_tellLine_r2 ++ (wsX6_tellLine_r3 ++ (wsX6_tellLine_r4 ++ (wsX6_tellLine_r5 ++ wsX6_tellLine_r6))))) ++ wsX60 ++ wsX50 ++ wsX20 ++ wsX00 ++ wsX10)
def wsX6_tellAll_r1 : List Cond := [Cond.fieldLink RX6 15 "TokenDoors$Teller" "draft" "LTokenDoors$Hall;", Cond.fieldLink RX6 24 "TokenDoors$Teller" "found" "I", Cond.fieldLink RX6 9 "TokenDoors$Teller" "tape" "LTokenDoors$Tape;", Cond.fieldLink RX6 28 "TokenDoors$Tape" "next" "I", Cond.methodLink RX6 19 yX2_clear, Cond.instanceMethod yX2_clear, Cond.selects RX2 yX2_clear yX2_clear, Cond.initialized RX2, Cond.code yX2_clear cX2_clear 1 none, Cond.fieldLink RX2 25 "TokenDoors$Hall" "doorCount" "I", Cond.fieldLink RX2 29 "TokenDoors$Hall" "crowdCount" "I", Cond.fieldLink RX2 32 "TokenDoors$Hall" "tick" "I", Cond.fieldLink RX2 35 "TokenDoors$Hall" "let" "I", Cond.fieldLink RX2 38 "TokenDoors$Hall" "turned" "I", Cond.methodLink RX6 33 yX5_advance, Cond.instanceMethod yX5_advance, Cond.selects RX5 yX5_advance yX5_advance, Cond.initialized RX5, Cond.code yX5_advance cX5_advance 1 (some .int), Cond.fieldLink RX5 19 "TokenDoors$Tape" "next" "I", Cond.fieldLink RX5 15 "TokenDoors$Tape" "length" "I", Cond.fieldLink RX5 9 "TokenDoors$Tape" "bytes" "[B", Cond.fieldLink RX5 22 "TokenDoors$Tape" "start" "I", Cond.methodLink RX5 25 yX5_isLetter]
def wsX6_tellAll_r2 : List Cond := [Cond.static yX5_isLetter, Cond.code yX5_isLetter cX5_isLetter 1 (some .boolean), Cond.methodLink RX5 29 yX5_takeName, Cond.instanceMethod yX5_takeName, Cond.selects RX5 yX5_takeName yX5_takeName, Cond.code yX5_takeName cX5_takeName 1 (some .int), Cond.methodLink RX5 33 yX5_isFigure, Cond.static yX5_isFigure, Cond.code yX5_isFigure cX5_isFigure 1 (some .boolean), Cond.methodLink RX5 36 yX5_takeNumber, Cond.instanceMethod yX5_takeNumber, Cond.selects RX5 yX5_takeNumber yX5_takeNumber, Cond.code yX5_takeNumber cX5_takeNumber 1 (some .int), Cond.fieldLink RX5 39 "TokenDoors$Tape" "value" "I", Cond.methodLink RX6 37 yX6_tellLine, Cond.instanceMethod yX6_tellLine, Cond.selects RX6 yX6_tellLine yX6_tellLine, Cond.initialized RX6, Cond.code yX6_tellLine cX6_tellLine 3 (some .boolean), Cond.methodLink RX6 41 yX6_expect, Cond.instanceMethod yX6_expect, Cond.selects RX6 yX6_expect yX6_expect, Cond.code yX6_expect cX6_expect 3 (some .boolean), Cond.methodLink RX6 48 yX6_fail]
def wsX6_tellAll_r3 : List Cond := [Cond.instanceMethod yX6_fail, Cond.selects RX6 yX6_fail yX6_fail, Cond.code yX6_fail cX6_fail 2 (some .boolean), Cond.methodLink RX6 45 yX6_lineBegun, Cond.instanceMethod yX6_lineBegun, Cond.selects RX6 yX6_lineBegun yX6_lineBegun, Cond.code yX6_lineBegun cX6_lineBegun 1 (some .int), Cond.methodLink RX6 60 yX5_nameIs, Cond.instanceMethod yX5_nameIs, Cond.selects RX5 yX5_nameIs yX5_nameIs, Cond.code yX5_nameIs cX5_nameIs 3 (some .boolean), Cond.methodLink RX5 42 yJ0_length_8abf5, Cond.instanceMethod yJ0_length_8abf5, Cond.selects RJ0 yJ0_length_8abf5 yJ0_length_8abf5, Cond.initialized RJ0, Cond.code yJ0_length_8abf5 cJ0_length_8abf5 1 (some .int), Cond.fieldLink RJ0 9 "java/lang/String" "value" "[B", Cond.methodLink RJ0 335 yJ0_coder_7d493, Cond.instanceMethod yJ0_coder_7d493, Cond.selects RJ0 yJ0_coder_7d493 yJ0_coder_7d493, Cond.code yJ0_coder_7d493 cJ0_coder_7d493 1 (some .byte), Cond.fieldLink RJ0 38 "java/lang/String" "COMPACT_STRINGS" "Z", Cond.fieldLink RJ0 15 "java/lang/String" "coder" "B", Cond.methodLink RX5 46 yJ0_charAt_5068e]
def wsX6_tellAll_r4 : List Cond := [Cond.instanceMethod yJ0_charAt_5068e, Cond.selects RJ0 yJ0_charAt_5068e yJ0_charAt_5068e, Cond.code yJ0_charAt_5068e cJ0_charAt_5068e 2 (some .char), Cond.methodLink RJ0 492 yJ0_isLatin1_aae02, Cond.instanceMethod yJ0_isLatin1_aae02, Cond.selects RJ0 yJ0_isLatin1_aae02 yJ0_isLatin1_aae02, Cond.code yJ0_isLatin1_aae02 cJ0_isLatin1_aae02 1 (some .boolean), Cond.methodLink RJ0 495 yJ1_charAt_3b067, Cond.static yJ1_charAt_3b067, Cond.initialized RJ1, Cond.code yJ1_charAt_3b067 cJ1_charAt_3b067 2 (some .char), Cond.methodLink RJ1 9 yJ0_checkIndex_df160, Cond.static yJ0_checkIndex_df160, Cond.code yJ0_checkIndex_df160 cJ0_checkIndex_df160 2 none, Cond.fieldLink RJ0 1053 "jdk/internal/util/Preconditions" "SIOOBE_FORMATTER" "Ljava/util/function/BiFunction;", Cond.methodLink RJ0 1059 yJ3_checkIndex_8e157, Cond.static yJ3_checkIndex_8e157, Cond.initialized RJ3, Cond.code yJ3_checkIndex_8e157 cJ3_checkIndex_8e157 3 (some .int), Cond.methodLink RJ0 498 yJ2_charAt_3b067, Cond.static yJ2_charAt_3b067, Cond.initialized RJ2, Cond.code yJ2_charAt_3b067 cJ2_charAt_3b067 2 (some .char), Cond.methodLink RJ2 67 yJ2_checkIndex_2214a]
def wsX6_tellAll_r5 : List Cond := [Cond.static yJ2_checkIndex_2214a, Cond.code yJ2_checkIndex_2214a cJ2_checkIndex_2214a 2 none, Cond.methodLink RJ2 48 yJ2_length_9d52b, Cond.static yJ2_length_9d52b, Cond.code yJ2_length_9d52b cJ2_length_9d52b 1 (some .int), Cond.methodLink RJ2 414 yJ0_checkIndex_df160, Cond.methodLink RJ2 71 yJ2_getChar_3b067, Cond.static yJ2_getChar_3b067, Cond.code yJ2_getChar_3b067 cJ2_getChar_3b067 2 (some .char), Cond.fieldLink RJ2 44 "java/lang/StringUTF16" "$assertionsDisabled" "Z", Cond.fieldLink RJ2 59 "java/lang/StringUTF16" "HI_BYTE_SHIFT" "I", Cond.fieldLink RJ2 63 "java/lang/StringUTF16" "LO_BYTE_SHIFT" "I", Cond.methodLink RX6 51 yX6_tellCrowd, Cond.instanceMethod yX6_tellCrowd, Cond.selects RX6 yX6_tellCrowd yX6_tellCrowd, Cond.code yX6_tellCrowd cX6_tellCrowd 4 (some .boolean), Cond.fieldLink RX6 88 "TokenDoors$Hall" "crowdCount" "I", Cond.fieldLink RX6 78 "TokenDoors$Tape" "value" "I", Cond.methodLink RX6 75 yX6_takeNumber, Cond.instanceMethod yX6_takeNumber, Cond.selects RX6 yX6_takeNumber yX6_takeNumber, Cond.code yX6_takeNumber cX6_takeNumber 3 (some .boolean), Cond.methodLink RX6 81 yX6_takeStop, Cond.instanceMethod yX6_takeStop]
def wsX6_tellAll_r6 : List Cond := [Cond.selects RX6 yX6_takeStop yX6_takeStop, Cond.code yX6_takeStop cX6_takeStop 1 (some .boolean), Cond.methodLink RX6 91 yX2_addCrowd, Cond.instanceMethod yX2_addCrowd, Cond.selects RX2 yX2_addCrowd yX2_addCrowd, Cond.code yX2_addCrowd cX2_addCrowd 4 (some .boolean), Cond.fieldLink RX2 19 "TokenDoors$Hall" "crowds" "[LTokenDoors$Crowd;", Cond.methodLink RX2 54 yX0_make, Cond.instanceMethod yX0_make, Cond.selects RX0 yX0_make yX0_make, Cond.initialized RX0, Cond.code yX0_make cX0_make 4 none, Cond.fieldLink RX0 7 "TokenDoors$Crowd" "start" "I", Cond.fieldLink RX0 13 "TokenDoors$Crowd" "many" "I", Cond.fieldLink RX0 16 "TokenDoors$Crowd" "every" "I", Cond.methodLink RX6 55 yX6_tellDoor, Cond.instanceMethod yX6_tellDoor, Cond.selects RX6 yX6_tellDoor yX6_tellDoor, Cond.code yX6_tellDoor cX6_tellDoor 4 (some .boolean), Cond.fieldLink RX6 72 "TokenDoors$Hall" "doorCount" "I", Cond.methodLink RX6 84 yX2_addDoor, Cond.instanceMethod yX2_addDoor, Cond.selects RX2 yX2_addDoor yX2_addDoor, Cond.code yX2_addDoor cX2_addDoor 4 (some .boolean)]
def wsX6_tellAll_r7 : List Cond := [Cond.fieldLink RX2 11 "TokenDoors$Hall" "doors" "[LTokenDoors$Door;", Cond.methodLink RX2 61 yX1_make, Cond.instanceMethod yX1_make, Cond.selects RX1 yX1_make yX1_make, Cond.initialized RX1, Cond.code yX1_make cX1_make 4 none, Cond.fieldLink RX1 9 "TokenDoors$Door" "kind" "I", Cond.fieldLink RX1 15 "TokenDoors$Door" "depth" "I", Cond.fieldLink RX1 18 "TokenDoors$Door" "rate" "I", Cond.fieldLink RX1 21 "TokenDoors$Door" "holds" "I"]
def wsX6_tellAll : List Cond := .code yX6_tellAll cX6_tellAll 4 (some .int) :: ((wsX6_tellAll_r1 ++ (wsX6_tellAll_r2 ++ (wsX6_tellAll_r3 ++ (wsX6_tellAll_r4 ++ (wsX6_tellAll_r5 ++ (wsX6_tellAll_r6 ++ wsX6_tellAll_r7)))))) ++ wsX60 ++ wsX50 ++ wsX20 ++ wsX00 ++ wsX10)
def wsX7_init_r1 : List Cond := [Cond.methodLink RX7 1 objectInit, Cond.instanceMethod objectInit, Cond.code objectInit ⟨#[0xb1]⟩ 1 none, Cond.classLink RX7 7 RX2, Cond.instantiable RX2 7, Cond.initialized RX2, Cond.fieldLink RX7 10 "TokenDoors" "now" "LTokenDoors$Hall;", Cond.fieldLink RX7 16 "TokenDoors" "trial" "LTokenDoors$Hall;", Cond.fieldLink RX7 19 "TokenDoors" "images" "[LTokenDoors$Hall;", Cond.arrayClass .boolean, Cond.fieldLink RX7 23 "TokenDoors" "kept" "[Z", Cond.classLink RX7 27 RX5, Cond.instantiable RX5 5, Cond.initialized RX5, Cond.fieldLink RX7 30 "TokenDoors" "tape" "LTokenDoors$Tape;", Cond.classLink RX7 34 RX6, Cond.instantiable RX6 3, Cond.initialized RX6, Cond.fieldLink RX7 39 "TokenDoors" "teller" "LTokenDoors$Teller;", Cond.classLink RX7 43 RX3, Cond.instantiable RX3 3, Cond.initialized RX3, Cond.fieldLink RX7 46 "TokenDoors" "seen" "LTokenDoors$Seen;", Cond.classLink RX7 50 RX4]
def wsX7_init_r2 : List Cond := [Cond.fieldLink RX7 52 "TokenDoors" "sheets" "[LTokenDoors$Sheet;", Cond.classLink RX7 56 "[[I", Cond.arrayClass .int, Cond.fieldLink RX7 58 "TokenDoors" "letByRate" "[[I", Cond.fieldLink RX7 61 "TokenDoors" "letByTick" "[I", Cond.instantiable RX4 4, Cond.initialized RX4, Cond.methodLink RX7 9 yX2_init, Cond.instanceMethod yX2_init, Cond.code yX2_init cX2_init 2 none, Cond.methodLink RX2 3 objectInit, Cond.classLink RX2 9 RX1, Cond.fieldLink RX2 11 "TokenDoors$Hall" "doors" "[LTokenDoors$Door;", Cond.classLink RX2 17 RX0, Cond.fieldLink RX2 19 "TokenDoors$Hall" "crowds" "[LTokenDoors$Crowd;", Cond.instantiable RX1 6, Cond.initialized RX1, Cond.instantiable RX0 3, Cond.initialized RX0, Cond.methodLink RX2 23 yX1_init, Cond.instanceMethod yX1_init, Cond.code yX1_init cX1_init 1 none, Cond.methodLink RX1 3 objectInit, Cond.methodLink RX2 24 yX0_init]
def wsX7_init_r3 : List Cond := [Cond.instanceMethod yX0_init, Cond.code yX0_init cX0_init 1 none, Cond.methodLink RX0 1 objectInit, Cond.methodLink RX7 29 yX5_init, Cond.instanceMethod yX5_init, Cond.code yX5_init cX5_init 1 none, Cond.methodLink RX5 3 objectInit, Cond.arrayClass .byte, Cond.fieldLink RX5 9 "TokenDoors$Tape" "bytes" "[B", Cond.methodLink RX7 36 yX6_init, Cond.instanceMethod yX6_init, Cond.code yX6_init cX6_init 3 none, Cond.methodLink RX6 3 objectInit, Cond.fieldLink RX6 9 "TokenDoors$Teller" "tape" "LTokenDoors$Tape;", Cond.fieldLink RX6 15 "TokenDoors$Teller" "draft" "LTokenDoors$Hall;", Cond.methodLink RX7 45 yX3_init, Cond.instanceMethod yX3_init, Cond.code yX3_init cX3_init 1 none, Cond.methodLink RX3 3 objectInit, Cond.fieldLink RX3 9 "TokenDoors$Seen" "inTick" "[I", Cond.fieldLink RX3 15 "TokenDoors$Seen" "let" "[I", Cond.methodLink RX7 65 yX4_init, Cond.instanceMethod yX4_init, Cond.code yX4_init cX4_init 1 none]
def wsX7_init_r4 : List Cond := [Cond.methodLink RX4 3 objectInit, Cond.fieldLink RX4 9 "TokenDoors$Sheet" "cells" "[I"]
def wsX7_init : List Cond := .code yX7_init cX7_init 2 none :: ((wsX7_init_r1 ++ (wsX7_init_r2 ++ (wsX7_init_r3 ++ wsX7_init_r4))) ++ wsX20 ++ wsX70 ++ wsX50 ++ wsX60 ++ wsX30 ++ wsX40 ++ wsX10 ++ wsX00)
def wsX7_feed : List Cond := .code yX7_feed cX7_feed 2 (some .int) :: ([.fieldLink RX7 30 "TokenDoors" "tape" "LTokenDoors$Tape;", .fieldLink RX7 70 "TokenDoors$Tape" "length" "I", .methodLink RX7 66 yX5_append, .instanceMethod yX5_append, .selects RX5 yX5_append yX5_append, .initialized RX5, .code yX5_append cX5_append 2 (some .boolean), .fieldLink RX5 15 "TokenDoors$Tape" "length" "I", .fieldLink RX5 9 "TokenDoors$Tape" "bytes" "[B"] ++ wsX70 ++ wsX50)
def wsX7_end : List Cond := .code yX7_end cX7_end 3 (some .int) :: ([.fieldLink RX7 30 "TokenDoors" "tape" "LTokenDoors$Tape;", .fieldLink RX7 70 "TokenDoors$Tape" "length" "I"] ++ wsX70 ++ wsX50)
def wsX7_text_r1 : List Cond := [Cond.fieldLink RX7 39 "TokenDoors" "teller" "LTokenDoors$Teller;", Cond.fieldLink RX7 30 "TokenDoors" "tape" "LTokenDoors$Tape;", Cond.fieldLink RX7 70 "TokenDoors$Tape" "length" "I", Cond.fieldLink RX7 78 "TokenDoors$Teller" "found" "I", Cond.fieldLink RX7 81 "TokenDoors$Tape" "start" "I", Cond.fieldLink RX7 10 "TokenDoors" "now" "LTokenDoors$Hall;", Cond.fieldLink RX7 16 "TokenDoors" "trial" "LTokenDoors$Hall;", Cond.fieldLink RX7 46 "TokenDoors" "seen" "LTokenDoors$Seen;", Cond.fieldLink RX7 88 "TokenDoors$Seen" "size" "I", Cond.fieldLink RX7 23 "TokenDoors" "kept" "[Z", Cond.methodLink RX7 74 yX6_tellAll, Cond.instanceMethod yX6_tellAll, Cond.selects RX6 yX6_tellAll yX6_tellAll, Cond.initialized RX6, Cond.code yX6_tellAll cX6_tellAll 4 (some .int), Cond.fieldLink RX6 15 "TokenDoors$Teller" "draft" "LTokenDoors$Hall;", Cond.fieldLink RX6 24 "TokenDoors$Teller" "found" "I", Cond.fieldLink RX6 9 "TokenDoors$Teller" "tape" "LTokenDoors$Tape;", Cond.fieldLink RX6 28 "TokenDoors$Tape" "next" "I", Cond.methodLink RX6 19 yX2_clear, Cond.instanceMethod yX2_clear, Cond.selects RX2 yX2_clear yX2_clear, Cond.initialized RX2, Cond.code yX2_clear cX2_clear 1 none]
def wsX7_text_r2 : List Cond := [Cond.fieldLink RX2 25 "TokenDoors$Hall" "doorCount" "I", Cond.fieldLink RX2 29 "TokenDoors$Hall" "crowdCount" "I", Cond.fieldLink RX2 32 "TokenDoors$Hall" "tick" "I", Cond.fieldLink RX2 35 "TokenDoors$Hall" "let" "I", Cond.fieldLink RX2 38 "TokenDoors$Hall" "turned" "I", Cond.methodLink RX6 33 yX5_advance, Cond.instanceMethod yX5_advance, Cond.selects RX5 yX5_advance yX5_advance, Cond.initialized RX5, Cond.code yX5_advance cX5_advance 1 (some .int), Cond.fieldLink RX5 19 "TokenDoors$Tape" "next" "I", Cond.fieldLink RX5 15 "TokenDoors$Tape" "length" "I", Cond.fieldLink RX5 9 "TokenDoors$Tape" "bytes" "[B", Cond.fieldLink RX5 22 "TokenDoors$Tape" "start" "I", Cond.methodLink RX5 25 yX5_isLetter, Cond.static yX5_isLetter, Cond.code yX5_isLetter cX5_isLetter 1 (some .boolean), Cond.methodLink RX5 29 yX5_takeName, Cond.instanceMethod yX5_takeName, Cond.selects RX5 yX5_takeName yX5_takeName, Cond.code yX5_takeName cX5_takeName 1 (some .int), Cond.methodLink RX5 33 yX5_isFigure, Cond.static yX5_isFigure, Cond.code yX5_isFigure cX5_isFigure 1 (some .boolean)]
def wsX7_text_r3 : List Cond := [Cond.methodLink RX5 36 yX5_takeNumber, Cond.instanceMethod yX5_takeNumber, Cond.selects RX5 yX5_takeNumber yX5_takeNumber, Cond.code yX5_takeNumber cX5_takeNumber 1 (some .int), Cond.fieldLink RX5 39 "TokenDoors$Tape" "value" "I", Cond.methodLink RX6 37 yX6_tellLine, Cond.instanceMethod yX6_tellLine, Cond.selects RX6 yX6_tellLine yX6_tellLine, Cond.code yX6_tellLine cX6_tellLine 3 (some .boolean), Cond.methodLink RX6 41 yX6_expect, Cond.instanceMethod yX6_expect, Cond.selects RX6 yX6_expect yX6_expect, Cond.code yX6_expect cX6_expect 3 (some .boolean), Cond.methodLink RX6 48 yX6_fail, Cond.instanceMethod yX6_fail, Cond.selects RX6 yX6_fail yX6_fail, Cond.code yX6_fail cX6_fail 2 (some .boolean), Cond.methodLink RX6 45 yX6_lineBegun, Cond.instanceMethod yX6_lineBegun, Cond.selects RX6 yX6_lineBegun yX6_lineBegun, Cond.code yX6_lineBegun cX6_lineBegun 1 (some .int), Cond.methodLink RX6 60 yX5_nameIs, Cond.instanceMethod yX5_nameIs, Cond.selects RX5 yX5_nameIs yX5_nameIs]
def wsX7_text_r4 : List Cond := [Cond.code yX5_nameIs cX5_nameIs 3 (some .boolean), Cond.methodLink RX5 42 yJ0_length_8abf5, Cond.instanceMethod yJ0_length_8abf5, Cond.selects RJ0 yJ0_length_8abf5 yJ0_length_8abf5, Cond.initialized RJ0, Cond.code yJ0_length_8abf5 cJ0_length_8abf5 1 (some .int), Cond.fieldLink RJ0 9 "java/lang/String" "value" "[B", Cond.methodLink RJ0 335 yJ0_coder_7d493, Cond.instanceMethod yJ0_coder_7d493, Cond.selects RJ0 yJ0_coder_7d493 yJ0_coder_7d493, Cond.code yJ0_coder_7d493 cJ0_coder_7d493 1 (some .byte), Cond.fieldLink RJ0 38 "java/lang/String" "COMPACT_STRINGS" "Z", Cond.fieldLink RJ0 15 "java/lang/String" "coder" "B", Cond.methodLink RX5 46 yJ0_charAt_5068e, Cond.instanceMethod yJ0_charAt_5068e, Cond.selects RJ0 yJ0_charAt_5068e yJ0_charAt_5068e, Cond.code yJ0_charAt_5068e cJ0_charAt_5068e 2 (some .char), Cond.methodLink RJ0 492 yJ0_isLatin1_aae02, Cond.instanceMethod yJ0_isLatin1_aae02, Cond.selects RJ0 yJ0_isLatin1_aae02 yJ0_isLatin1_aae02, Cond.code yJ0_isLatin1_aae02 cJ0_isLatin1_aae02 1 (some .boolean), Cond.methodLink RJ0 495 yJ1_charAt_3b067, Cond.static yJ1_charAt_3b067, Cond.initialized RJ1]
def wsX7_text_r5 : List Cond := [Cond.code yJ1_charAt_3b067 cJ1_charAt_3b067 2 (some .char), Cond.methodLink RJ1 9 yJ0_checkIndex_df160, Cond.static yJ0_checkIndex_df160, Cond.code yJ0_checkIndex_df160 cJ0_checkIndex_df160 2 none, Cond.fieldLink RJ0 1053 "jdk/internal/util/Preconditions" "SIOOBE_FORMATTER" "Ljava/util/function/BiFunction;", Cond.methodLink RJ0 1059 yJ3_checkIndex_8e157, Cond.static yJ3_checkIndex_8e157, Cond.initialized RJ3, Cond.code yJ3_checkIndex_8e157 cJ3_checkIndex_8e157 3 (some .int), Cond.methodLink RJ0 498 yJ2_charAt_3b067, Cond.static yJ2_charAt_3b067, Cond.initialized RJ2, Cond.code yJ2_charAt_3b067 cJ2_charAt_3b067 2 (some .char), Cond.methodLink RJ2 67 yJ2_checkIndex_2214a, Cond.static yJ2_checkIndex_2214a, Cond.code yJ2_checkIndex_2214a cJ2_checkIndex_2214a 2 none, Cond.methodLink RJ2 48 yJ2_length_9d52b, Cond.static yJ2_length_9d52b, Cond.code yJ2_length_9d52b cJ2_length_9d52b 1 (some .int), Cond.methodLink RJ2 414 yJ0_checkIndex_df160, Cond.methodLink RJ2 71 yJ2_getChar_3b067, Cond.static yJ2_getChar_3b067, Cond.code yJ2_getChar_3b067 cJ2_getChar_3b067 2 (some .char), Cond.fieldLink RJ2 44 "java/lang/StringUTF16" "$assertionsDisabled" "Z"]
def wsX7_text_r6 : List Cond := [Cond.fieldLink RJ2 59 "java/lang/StringUTF16" "HI_BYTE_SHIFT" "I", Cond.fieldLink RJ2 63 "java/lang/StringUTF16" "LO_BYTE_SHIFT" "I", Cond.methodLink RX6 51 yX6_tellCrowd, Cond.instanceMethod yX6_tellCrowd, Cond.selects RX6 yX6_tellCrowd yX6_tellCrowd, Cond.code yX6_tellCrowd cX6_tellCrowd 4 (some .boolean), Cond.fieldLink RX6 88 "TokenDoors$Hall" "crowdCount" "I", Cond.fieldLink RX6 78 "TokenDoors$Tape" "value" "I", Cond.methodLink RX6 75 yX6_takeNumber, Cond.instanceMethod yX6_takeNumber, Cond.selects RX6 yX6_takeNumber yX6_takeNumber, Cond.code yX6_takeNumber cX6_takeNumber 3 (some .boolean), Cond.methodLink RX6 81 yX6_takeStop, Cond.instanceMethod yX6_takeStop, Cond.selects RX6 yX6_takeStop yX6_takeStop, Cond.code yX6_takeStop cX6_takeStop 1 (some .boolean), Cond.methodLink RX6 91 yX2_addCrowd, Cond.instanceMethod yX2_addCrowd, Cond.selects RX2 yX2_addCrowd yX2_addCrowd, Cond.code yX2_addCrowd cX2_addCrowd 4 (some .boolean), Cond.fieldLink RX2 19 "TokenDoors$Hall" "crowds" "[LTokenDoors$Crowd;", Cond.methodLink RX2 54 yX0_make, Cond.instanceMethod yX0_make, Cond.selects RX0 yX0_make yX0_make]
def wsX7_text_r7 : List Cond := [Cond.initialized RX0, Cond.code yX0_make cX0_make 4 none, Cond.fieldLink RX0 7 "TokenDoors$Crowd" "start" "I", Cond.fieldLink RX0 13 "TokenDoors$Crowd" "many" "I", Cond.fieldLink RX0 16 "TokenDoors$Crowd" "every" "I", Cond.methodLink RX6 55 yX6_tellDoor, Cond.instanceMethod yX6_tellDoor, Cond.selects RX6 yX6_tellDoor yX6_tellDoor, Cond.code yX6_tellDoor cX6_tellDoor 4 (some .boolean), Cond.fieldLink RX6 72 "TokenDoors$Hall" "doorCount" "I", Cond.methodLink RX6 84 yX2_addDoor, Cond.instanceMethod yX2_addDoor, Cond.selects RX2 yX2_addDoor yX2_addDoor, Cond.code yX2_addDoor cX2_addDoor 4 (some .boolean), Cond.fieldLink RX2 11 "TokenDoors$Hall" "doors" "[LTokenDoors$Door;", Cond.methodLink RX2 61 yX1_make, Cond.instanceMethod yX1_make, Cond.selects RX1 yX1_make yX1_make, Cond.initialized RX1, Cond.code yX1_make cX1_make 4 none, Cond.fieldLink RX1 9 "TokenDoors$Door" "kind" "I", Cond.fieldLink RX1 15 "TokenDoors$Door" "depth" "I", Cond.fieldLink RX1 18 "TokenDoors$Door" "rate" "I", Cond.fieldLink RX1 21 "TokenDoors$Door" "holds" "I"]
def wsX7_text_r8 : List Cond := [Cond.methodLink RX7 84 yX2_become, Cond.instanceMethod yX2_become, Cond.selects RX2 yX2_become yX2_become, Cond.code yX2_become cX2_become 4 none, Cond.fieldLink RX2 45 "TokenDoors$Crowd" "start" "I", Cond.fieldLink RX2 48 "TokenDoors$Crowd" "many" "I", Cond.fieldLink RX2 51 "TokenDoors$Crowd" "every" "I", Cond.methodLink RX2 41 yX1_become, Cond.instanceMethod yX1_become, Cond.selects RX1 yX1_become yX1_become, Cond.code yX1_become cX1_become 2 none]
def wsX7_text : List Cond := .code yX7_text cX7_text 3 (some .int) :: ((wsX7_text_r1 ++ (wsX7_text_r2 ++ (wsX7_text_r3 ++ (wsX7_text_r4 ++ (wsX7_text_r5 ++ (wsX7_text_r6 ++ (wsX7_text_r7 ++ wsX7_text_r8))))))) ++ wsX70 ++ wsX50 ++ wsX60 ++ wsX30 ++ wsX20 ++ wsX00 ++ wsX10)
def wsX7_fault : List Cond := .code yX7_fault cX7_fault 1 (some .int) :: ([.fieldLink RX7 39 "TokenDoors" "teller" "LTokenDoors$Teller;", .fieldLink RX7 78 "TokenDoors$Teller" "found" "I"] ++ wsX70 ++ wsX60)
def wsX7_rule_r1 : List Cond := [Cond.fieldLink RX7 10 "TokenDoors" "now" "LTokenDoors$Hall;", Cond.fieldLink RX7 91 "TokenDoors$Hall" "doorCount" "I", Cond.fieldLink RX7 94 "TokenDoors$Hall" "crowdCount" "I", Cond.fieldLink RX7 97 "TokenDoors$Hall" "tick" "I", Cond.fieldLink RX7 100 "TokenDoors$Hall" "let" "I", Cond.fieldLink RX7 103 "TokenDoors$Hall" "turned" "I", Cond.methodLink RX7 106 yX2_comers, Cond.instanceMethod yX2_comers, Cond.selects RX2 yX2_comers yX2_comers, Cond.initialized RX2, Cond.code yX2_comers cX2_comers 3 (some .int), Cond.fieldLink RX2 29 "TokenDoors$Hall" "crowdCount" "I", Cond.fieldLink RX2 19 "TokenDoors$Hall" "crowds" "[LTokenDoors$Crowd;", Cond.fieldLink RX2 32 "TokenDoors$Hall" "tick" "I", Cond.fieldLink RX2 48 "TokenDoors$Crowd" "many" "I", Cond.methodLink RX2 62 yX0_comesAt, Cond.instanceMethod yX0_comesAt, Cond.selects RX0 yX0_comesAt yX0_comesAt, Cond.initialized RX0, Cond.code yX0_comesAt cX0_comesAt 2 (some .boolean), Cond.fieldLink RX0 7 "TokenDoors$Crowd" "start" "I", Cond.fieldLink RX0 16 "TokenDoors$Crowd" "every" "I", Cond.methodLink RX7 109 yX2_letters, Cond.instanceMethod yX2_letters]
def wsX7_rule_r2 : List Cond := [Cond.selects RX2 yX2_letters yX2_letters, Cond.code yX2_letters cX2_letters 3 (some .int), Cond.fieldLink RX2 25 "TokenDoors$Hall" "doorCount" "I", Cond.fieldLink RX2 11 "TokenDoors$Hall" "doors" "[LTokenDoors$Door;", Cond.methodLink RX2 66 yX1_room, Cond.instanceMethod yX1_room, Cond.selects RX1 yX1_room yX1_room, Cond.initialized RX1, Cond.code yX1_room cX1_room 1 (some .int), Cond.fieldLink RX1 9 "TokenDoors$Door" "kind" "I", Cond.fieldLink RX1 21 "TokenDoors$Door" "holds" "I", Cond.fieldLink RX1 15 "TokenDoors$Door" "depth" "I"]
def wsX7_rule : List Cond := .code yX7_rule cX7_rule 2 (some .int) :: ((wsX7_rule_r1 ++ wsX7_rule_r2) ++ wsX70 ++ wsX20 ++ wsX00 ++ wsX10)
def wsX7_isDoor : List Cond := .code yX7_isDoor cX7_isDoor 2 (some .boolean) :: ([.fieldLink RX7 10 "TokenDoors" "now" "LTokenDoors$Hall;", .fieldLink RX7 91 "TokenDoors$Hall" "doorCount" "I"] ++ wsX70 ++ wsX20)
def wsX7_door : List Cond := .code yX7_door cX7_door 3 (some .int) :: ([.fieldLink RX7 10 "TokenDoors" "now" "LTokenDoors$Hall;", .fieldLink RX7 115 "TokenDoors$Hall" "doors" "[LTokenDoors$Door;", .methodLink RX7 112 yX7_isDoor, .instanceMethod yX7_isDoor, .selects RX7 yX7_isDoor yX7_isDoor, .initialized RX7, .code yX7_isDoor cX7_isDoor 2 (some .boolean), .fieldLink RX7 91 "TokenDoors$Hall" "doorCount" "I", .methodLink RX7 119 yX1_room, .instanceMethod yX1_room, .selects RX1 yX1_room yX1_room, .initialized RX1, .code yX1_room cX1_room 1 (some .int), .fieldLink RX1 9 "TokenDoors$Door" "kind" "I", .fieldLink RX1 21 "TokenDoors$Door" "holds" "I", .fieldLink RX1 15 "TokenDoors$Door" "depth" "I", .methodLink RX7 124 yX1_told, .instanceMethod yX1_told, .selects RX1 yX1_told yX1_told, .code yX1_told cX1_told 2 (some .int), .fieldLink RX1 18 "TokenDoors$Door" "rate" "I"] ++ wsX70 ++ wsX20 ++ wsX10)
def wsX7_crowd : List Cond := .code yX7_crowd cX7_crowd 3 (some .int) :: ([.fieldLink RX7 10 "TokenDoors" "now" "LTokenDoors$Hall;", .fieldLink RX7 94 "TokenDoors$Hall" "crowdCount" "I", .fieldLink RX7 128 "TokenDoors$Hall" "crowds" "[LTokenDoors$Crowd;", .fieldLink RX7 132 "TokenDoors$Crowd" "start" "I", .fieldLink RX7 135 "TokenDoors$Crowd" "many" "I", .fieldLink RX7 138 "TokenDoors$Crowd" "every" "I"] ++ wsX70 ++ wsX20 ++ wsX00)
def wsX7_lowest : List Cond := .code yX7_lowest cX7_lowest 1 (some .int) :: ([])
def wsX7_highest : List Cond := .code yX7_highest cX7_highest 1 (some .int) :: ([])
def wsX7_mayBecome : List Cond := .code yX7_mayBecome cX7_mayBecome 2 (some .boolean) :: ([.methodLink RX7 293 yX7_lowest, .static yX7_lowest, .initialized RX7, .code yX7_lowest cX7_lowest 1 (some .int), .methodLink RX7 296 yX7_highest, .static yX7_highest, .code yX7_highest cX7_highest 1 (some .int)])
def wsX7_alter_r1 : List Cond := [Cond.fieldLink RX7 10 "TokenDoors" "now" "LTokenDoors$Hall;", Cond.fieldLink RX7 115 "TokenDoors$Hall" "doors" "[LTokenDoors$Door;", Cond.fieldLink RX7 145 "TokenDoors$Door" "depth" "I", Cond.methodLink RX7 112 yX7_isDoor, Cond.instanceMethod yX7_isDoor, Cond.selects RX7 yX7_isDoor yX7_isDoor, Cond.initialized RX7, Cond.code yX7_isDoor cX7_isDoor 2 (some .boolean), Cond.fieldLink RX7 91 "TokenDoors$Hall" "doorCount" "I", Cond.methodLink RX7 141 yX7_mayBecome, Cond.static yX7_mayBecome, Cond.code yX7_mayBecome cX7_mayBecome 2 (some .boolean), Cond.methodLink RX7 293 yX7_lowest, Cond.static yX7_lowest, Cond.code yX7_lowest cX7_lowest 1 (some .int), Cond.methodLink RX7 296 yX7_highest, Cond.static yX7_highest, Cond.code yX7_highest cX7_highest 1 (some .int), Cond.methodLink RX7 124 yX1_told, Cond.instanceMethod yX1_told, Cond.selects RX1 yX1_told yX1_told, Cond.initialized RX1, Cond.code yX1_told cX1_told 2 (some .int), Cond.fieldLink RX1 9 "TokenDoors$Door" "kind" "I"]
def wsX7_alter_r2 : List Cond := [Cond.fieldLink RX1 15 "TokenDoors$Door" "depth" "I", Cond.fieldLink RX1 18 "TokenDoors$Door" "rate" "I", Cond.fieldLink RX1 21 "TokenDoors$Door" "holds" "I", Cond.methodLink RX7 148 yX1_change, Cond.instanceMethod yX1_change, Cond.selects RX1 yX1_change yX1_change, Cond.code yX1_change cX1_change 3 none, Cond.methodLink RX1 31 Lib.Math.min.name, Cond.static Lib.Math.min.name, Cond.initialized "java/lang/Math", Cond.code Lib.Math.min.name Lib.Math.min.code 2 (some .int)]
def wsX7_alter : List Cond := .code yX7_alter cX7_alter 6 (some .int) :: ((wsX7_alter_r1 ++ wsX7_alter_r2) ++ wsX70 ++ wsX20 ++ wsX10)
def wsX7_hang_r1 : List Cond := [Cond.fieldLink RX7 10 "TokenDoors" "now" "LTokenDoors$Hall;", Cond.fieldLink RX7 91 "TokenDoors$Hall" "doorCount" "I", Cond.methodLink RX7 141 yX7_mayBecome, Cond.static yX7_mayBecome, Cond.initialized RX7, Cond.code yX7_mayBecome cX7_mayBecome 2 (some .boolean), Cond.methodLink RX7 293 yX7_lowest, Cond.static yX7_lowest, Cond.code yX7_lowest cX7_lowest 1 (some .int), Cond.methodLink RX7 296 yX7_highest, Cond.static yX7_highest, Cond.code yX7_highest cX7_highest 1 (some .int), Cond.methodLink RX7 152 yX2_addDoor, Cond.instanceMethod yX2_addDoor, Cond.selects RX2 yX2_addDoor yX2_addDoor, Cond.initialized RX2, Cond.code yX2_addDoor cX2_addDoor 4 (some .boolean), Cond.fieldLink RX2 25 "TokenDoors$Hall" "doorCount" "I", Cond.fieldLink RX2 11 "TokenDoors$Hall" "doors" "[LTokenDoors$Door;", Cond.methodLink RX2 61 yX1_make, Cond.instanceMethod yX1_make, Cond.selects RX1 yX1_make yX1_make, Cond.initialized RX1, Cond.code yX1_make cX1_make 4 none]
def wsX7_hang_r2 : List Cond := [Cond.fieldLink RX1 9 "TokenDoors$Door" "kind" "I", Cond.fieldLink RX1 15 "TokenDoors$Door" "depth" "I", Cond.fieldLink RX1 18 "TokenDoors$Door" "rate" "I", Cond.fieldLink RX1 21 "TokenDoors$Door" "holds" "I"]
def wsX7_hang : List Cond := .code yX7_hang cX7_hang 4 (some .int) :: ((wsX7_hang_r1 ++ wsX7_hang_r2) ++ wsX70 ++ wsX20 ++ wsX10)
def wsX7_cut : List Cond := .code yX7_cut cX7_cut 3 (some .int) :: ([.fieldLink RX7 10 "TokenDoors" "now" "LTokenDoors$Hall;", .fieldLink RX7 91 "TokenDoors$Hall" "doorCount" "I"] ++ wsX70 ++ wsX20)
def wsX7_isCrowd : List Cond := .code yX7_isCrowd cX7_isCrowd 3 (some .boolean) :: ([])
def wsX7_come : List Cond := .code yX7_come cX7_come 4 (some .int) :: ([.fieldLink RX7 10 "TokenDoors" "now" "LTokenDoors$Hall;", .fieldLink RX7 94 "TokenDoors$Hall" "crowdCount" "I", .methodLink RX7 156 yX7_isCrowd, .static yX7_isCrowd, .initialized RX7, .code yX7_isCrowd cX7_isCrowd 3 (some .boolean), .methodLink RX7 159 yX2_addCrowd, .instanceMethod yX2_addCrowd, .selects RX2 yX2_addCrowd yX2_addCrowd, .initialized RX2, .code yX2_addCrowd cX2_addCrowd 4 (some .boolean), .fieldLink RX2 29 "TokenDoors$Hall" "crowdCount" "I", .fieldLink RX2 19 "TokenDoors$Hall" "crowds" "[LTokenDoors$Crowd;", .methodLink RX2 54 yX0_make, .instanceMethod yX0_make, .selects RX0 yX0_make yX0_make, .initialized RX0, .code yX0_make cX0_make 4 none, .fieldLink RX0 7 "TokenDoors$Crowd" "start" "I", .fieldLink RX0 13 "TokenDoors$Crowd" "many" "I", .fieldLink RX0 16 "TokenDoors$Crowd" "every" "I"] ++ wsX70 ++ wsX20 ++ wsX00)
def wsX7_leave : List Cond := .code yX7_leave cX7_leave 3 (some .int) :: ([.fieldLink RX7 10 "TokenDoors" "now" "LTokenDoors$Hall;", .fieldLink RX7 94 "TokenDoors$Hall" "crowdCount" "I"] ++ wsX70 ++ wsX20)
def wsX7_pass_r1 : List Cond := [Cond.fieldLink RX7 10 "TokenDoors" "now" "LTokenDoors$Hall;", Cond.methodLink RX7 162 yX2_firstShut, Cond.instanceMethod yX2_firstShut, Cond.selects RX2 yX2_firstShut yX2_firstShut, Cond.initialized RX2, Cond.code yX2_firstShut cX2_firstShut 2 (some .int), Cond.fieldLink RX2 25 "TokenDoors$Hall" "doorCount" "I", Cond.fieldLink RX2 11 "TokenDoors$Hall" "doors" "[LTokenDoors$Door;", Cond.methodLink RX2 66 yX1_room, Cond.instanceMethod yX1_room, Cond.selects RX1 yX1_room yX1_room, Cond.initialized RX1, Cond.code yX1_room cX1_room 1 (some .int), Cond.fieldLink RX1 9 "TokenDoors$Door" "kind" "I", Cond.fieldLink RX1 21 "TokenDoors$Door" "holds" "I", Cond.fieldLink RX1 15 "TokenDoors$Door" "depth" "I", Cond.methodLink RX7 165 yX2_admit, Cond.instanceMethod yX2_admit, Cond.selects RX2 yX2_admit yX2_admit, Cond.code yX2_admit cX2_admit 4 (some .int), Cond.constant RX2 74 (99999), Cond.fieldLink RX2 35 "TokenDoors$Hall" "let" "I", Cond.methodLink RX2 75 Lib.Math.min.name, Cond.static Lib.Math.min.name]
def wsX7_pass_r2 : List Cond := [Cond.initialized "java/lang/Math", Cond.code Lib.Math.min.name Lib.Math.min.code 2 (some .int), Cond.fieldLink RX2 38 "TokenDoors$Hall" "turned" "I", Cond.methodLink RX2 70 yX1_admit, Cond.instanceMethod yX1_admit, Cond.selects RX1 yX1_admit yX1_admit, Cond.code yX1_admit cX1_admit 3 (some .int), Cond.fieldLink RX1 27 "TokenDoors$Door" "standsOpen" "Z", Cond.methodLink RX1 31 Lib.Math.min.name, Cond.fieldLink RX1 24 "TokenDoors$Door" "refused" "I", Cond.methodLink RX1 37 yX1_room]
def wsX7_pass : List Cond := .code yX7_pass cX7_pass 2 (some .int) :: ((wsX7_pass_r1 ++ wsX7_pass_r2) ++ wsX70 ++ wsX20 ++ wsX10)
def wsX7_isRun : List Cond := .code yX7_isRun cX7_isRun 1 (some .boolean) :: ([])
def wsX7_ticks_r1 : List Cond := [Cond.fieldLink RX7 10 "TokenDoors" "now" "LTokenDoors$Hall;", Cond.fieldLink RX7 97 "TokenDoors$Hall" "tick" "I", Cond.methodLink RX7 168 yX7_isRun, Cond.static yX7_isRun, Cond.initialized RX7, Cond.code yX7_isRun cX7_isRun 1 (some .boolean), Cond.methodLink RX7 171 yX2_runOn, Cond.instanceMethod yX2_runOn, Cond.selects RX2 yX2_runOn yX2_runOn, Cond.initialized RX2, Cond.code yX2_runOn cX2_runOn 4 (some .int), Cond.methodLink RX2 92 yX2_tickOn, Cond.instanceMethod yX2_tickOn, Cond.selects RX2 yX2_tickOn yX2_tickOn, Cond.code yX2_tickOn cX2_tickOn 1 (some .int), Cond.methodLink RX2 86 yX2_comers, Cond.instanceMethod yX2_comers, Cond.selects RX2 yX2_comers yX2_comers, Cond.code yX2_comers cX2_comers 3 (some .int), Cond.fieldLink RX2 29 "TokenDoors$Hall" "crowdCount" "I", Cond.fieldLink RX2 19 "TokenDoors$Hall" "crowds" "[LTokenDoors$Crowd;", Cond.fieldLink RX2 32 "TokenDoors$Hall" "tick" "I", Cond.fieldLink RX2 48 "TokenDoors$Crowd" "many" "I", Cond.methodLink RX2 62 yX0_comesAt]
def wsX7_ticks_r2 : List Cond := [Cond.instanceMethod yX0_comesAt, Cond.selects RX0 yX0_comesAt yX0_comesAt, Cond.initialized RX0, Cond.code yX0_comesAt cX0_comesAt 2 (some .boolean), Cond.fieldLink RX0 7 "TokenDoors$Crowd" "start" "I", Cond.fieldLink RX0 16 "TokenDoors$Crowd" "every" "I", Cond.methodLink RX2 89 yX2_tickWith, Cond.instanceMethod yX2_tickWith, Cond.selects RX2 yX2_tickWith yX2_tickWith, Cond.code yX2_tickWith cX2_tickWith 4 (some .int), Cond.fieldLink RX2 25 "TokenDoors$Hall" "doorCount" "I", Cond.fieldLink RX2 11 "TokenDoors$Hall" "doors" "[LTokenDoors$Door;", Cond.methodLink RX2 81 yX2_admit, Cond.instanceMethod yX2_admit, Cond.selects RX2 yX2_admit yX2_admit, Cond.code yX2_admit cX2_admit 4 (some .int), Cond.constant RX2 74 (99999), Cond.fieldLink RX2 35 "TokenDoors$Hall" "let" "I", Cond.methodLink RX2 75 Lib.Math.min.name, Cond.static Lib.Math.min.name, Cond.initialized "java/lang/Math", Cond.code Lib.Math.min.name Lib.Math.min.code 2 (some .int), Cond.fieldLink RX2 38 "TokenDoors$Hall" "turned" "I", Cond.methodLink RX2 70 yX1_admit]
def wsX7_ticks_r3 : List Cond := [Cond.instanceMethod yX1_admit, Cond.selects RX1 yX1_admit yX1_admit, Cond.initialized RX1, Cond.code yX1_admit cX1_admit 3 (some .int), Cond.fieldLink RX1 27 "TokenDoors$Door" "standsOpen" "Z", Cond.methodLink RX1 31 Lib.Math.min.name, Cond.fieldLink RX1 21 "TokenDoors$Door" "holds" "I", Cond.fieldLink RX1 9 "TokenDoors$Door" "kind" "I", Cond.fieldLink RX1 24 "TokenDoors$Door" "refused" "I", Cond.methodLink RX1 37 yX1_room, Cond.instanceMethod yX1_room, Cond.selects RX1 yX1_room yX1_room, Cond.code yX1_room cX1_room 1 (some .int), Cond.fieldLink RX1 15 "TokenDoors$Door" "depth" "I", Cond.methodLink RX2 82 yX1_settle, Cond.instanceMethod yX1_settle, Cond.selects RX1 yX1_settle yX1_settle, Cond.code yX1_settle cX1_settle 2 none, Cond.fieldLink RX1 18 "TokenDoors$Door" "rate" "I", Cond.methodLink RX1 41 Lib.Math.max.name, Cond.static Lib.Math.max.name, Cond.code Lib.Math.max.name Lib.Math.max.code 2 (some .int)]
def wsX7_ticks : List Cond := .code yX7_ticks cX7_ticks 2 (some .int) :: ((wsX7_ticks_r1 ++ (wsX7_ticks_r2 ++ wsX7_ticks_r3)) ++ wsX70 ++ wsX20 ++ wsX00 ++ wsX10)
def wsX7_startTrial_r1 : List Cond := [Cond.fieldLink RX7 16 "TokenDoors" "trial" "LTokenDoors$Hall;", Cond.fieldLink RX7 10 "TokenDoors" "now" "LTokenDoors$Hall;", Cond.methodLink RX7 84 yX2_become, Cond.instanceMethod yX2_become, Cond.selects RX2 yX2_become yX2_become, Cond.initialized RX2, Cond.code yX2_become cX2_become 4 none, Cond.fieldLink RX2 25 "TokenDoors$Hall" "doorCount" "I", Cond.fieldLink RX2 11 "TokenDoors$Hall" "doors" "[LTokenDoors$Door;", Cond.fieldLink RX2 29 "TokenDoors$Hall" "crowdCount" "I", Cond.fieldLink RX2 19 "TokenDoors$Hall" "crowds" "[LTokenDoors$Crowd;", Cond.fieldLink RX2 45 "TokenDoors$Crowd" "start" "I", Cond.fieldLink RX2 48 "TokenDoors$Crowd" "many" "I", Cond.fieldLink RX2 51 "TokenDoors$Crowd" "every" "I", Cond.fieldLink RX2 32 "TokenDoors$Hall" "tick" "I", Cond.fieldLink RX2 35 "TokenDoors$Hall" "let" "I", Cond.fieldLink RX2 38 "TokenDoors$Hall" "turned" "I", Cond.methodLink RX2 41 yX1_become, Cond.instanceMethod yX1_become, Cond.selects RX1 yX1_become yX1_become, Cond.initialized RX1, Cond.code yX1_become cX1_become 2 none, Cond.fieldLink RX1 9 "TokenDoors$Door" "kind" "I", Cond.fieldLink RX1 15 "TokenDoors$Door" "depth" "I"]
def wsX7_startTrial_r2 : List Cond := [Cond.fieldLink RX1 18 "TokenDoors$Door" "rate" "I", Cond.fieldLink RX1 21 "TokenDoors$Door" "holds" "I", Cond.methodLink RX2 54 yX0_make, Cond.instanceMethod yX0_make, Cond.selects RX0 yX0_make yX0_make, Cond.initialized RX0, Cond.code yX0_make cX0_make 4 none, Cond.fieldLink RX0 7 "TokenDoors$Crowd" "start" "I", Cond.fieldLink RX0 13 "TokenDoors$Crowd" "many" "I", Cond.fieldLink RX0 16 "TokenDoors$Crowd" "every" "I", Cond.methodLink RX7 299 yX2_countAnew, Cond.instanceMethod yX2_countAnew, Cond.selects RX2 yX2_countAnew yX2_countAnew, Cond.code yX2_countAnew cX2_countAnew 2 none, Cond.methodLink RX2 58 yX1_countAnew, Cond.instanceMethod yX1_countAnew, Cond.selects RX1 yX1_countAnew yX1_countAnew, Cond.code yX1_countAnew cX1_countAnew 1 none, Cond.fieldLink RX1 24 "TokenDoors$Door" "refused" "I", Cond.fieldLink RX1 27 "TokenDoors$Door" "standsOpen" "Z"]
def wsX7_startTrial : List Cond := .code yX7_startTrial cX7_startTrial 1 none :: ((wsX7_startTrial_r1 ++ wsX7_startTrial_r2) ++ wsX70 ++ wsX20 ++ wsX00 ++ wsX10)
def wsX7_runs_r1 : List Cond := [Cond.fieldLink RX7 16 "TokenDoors" "trial" "LTokenDoors$Hall;", Cond.fieldLink RX7 103 "TokenDoors$Hall" "turned" "I", Cond.methodLink RX7 180 Lib.Math.max.name, Cond.static Lib.Math.max.name, Cond.initialized "java/lang/Math", Cond.code Lib.Math.max.name Lib.Math.max.code 2 (some .int), Cond.fieldLink RX7 100 "TokenDoors$Hall" "let" "I", Cond.methodLink RX7 168 yX7_isRun, Cond.static yX7_isRun, Cond.initialized RX7, Cond.code yX7_isRun cX7_isRun 1 (some .boolean), Cond.methodLink RX7 174 yX7_startTrial, Cond.instanceMethod yX7_startTrial, Cond.selects RX7 yX7_startTrial yX7_startTrial, Cond.code yX7_startTrial cX7_startTrial 1 none, Cond.fieldLink RX7 10 "TokenDoors" "now" "LTokenDoors$Hall;", Cond.methodLink RX7 84 yX2_become, Cond.instanceMethod yX2_become, Cond.selects RX2 yX2_become yX2_become, Cond.initialized RX2, Cond.code yX2_become cX2_become 4 none, Cond.fieldLink RX2 25 "TokenDoors$Hall" "doorCount" "I", Cond.fieldLink RX2 11 "TokenDoors$Hall" "doors" "[LTokenDoors$Door;", Cond.fieldLink RX2 29 "TokenDoors$Hall" "crowdCount" "I"]
def wsX7_runs_r2 : List Cond := [Cond.fieldLink RX2 19 "TokenDoors$Hall" "crowds" "[LTokenDoors$Crowd;", Cond.fieldLink RX2 45 "TokenDoors$Crowd" "start" "I", Cond.fieldLink RX2 48 "TokenDoors$Crowd" "many" "I", Cond.fieldLink RX2 51 "TokenDoors$Crowd" "every" "I", Cond.fieldLink RX2 32 "TokenDoors$Hall" "tick" "I", Cond.fieldLink RX2 35 "TokenDoors$Hall" "let" "I", Cond.fieldLink RX2 38 "TokenDoors$Hall" "turned" "I", Cond.methodLink RX2 41 yX1_become, Cond.instanceMethod yX1_become, Cond.selects RX1 yX1_become yX1_become, Cond.initialized RX1, Cond.code yX1_become cX1_become 2 none, Cond.fieldLink RX1 9 "TokenDoors$Door" "kind" "I", Cond.fieldLink RX1 15 "TokenDoors$Door" "depth" "I", Cond.fieldLink RX1 18 "TokenDoors$Door" "rate" "I", Cond.fieldLink RX1 21 "TokenDoors$Door" "holds" "I", Cond.methodLink RX2 54 yX0_make, Cond.instanceMethod yX0_make, Cond.selects RX0 yX0_make yX0_make, Cond.initialized RX0, Cond.code yX0_make cX0_make 4 none, Cond.fieldLink RX0 7 "TokenDoors$Crowd" "start" "I", Cond.fieldLink RX0 13 "TokenDoors$Crowd" "many" "I", Cond.fieldLink RX0 16 "TokenDoors$Crowd" "every" "I"]
def wsX7_runs_r3 : List Cond := [Cond.methodLink RX7 299 yX2_countAnew, Cond.instanceMethod yX2_countAnew, Cond.selects RX2 yX2_countAnew yX2_countAnew, Cond.code yX2_countAnew cX2_countAnew 2 none, Cond.methodLink RX2 58 yX1_countAnew, Cond.instanceMethod yX1_countAnew, Cond.selects RX1 yX1_countAnew yX1_countAnew, Cond.code yX1_countAnew cX1_countAnew 1 none, Cond.fieldLink RX1 24 "TokenDoors$Door" "refused" "I", Cond.fieldLink RX1 27 "TokenDoors$Door" "standsOpen" "Z", Cond.methodLink RX7 177 yX2_tickOn, Cond.instanceMethod yX2_tickOn, Cond.selects RX2 yX2_tickOn yX2_tickOn, Cond.code yX2_tickOn cX2_tickOn 1 (some .int), Cond.methodLink RX2 86 yX2_comers, Cond.instanceMethod yX2_comers, Cond.selects RX2 yX2_comers yX2_comers, Cond.code yX2_comers cX2_comers 3 (some .int), Cond.methodLink RX2 62 yX0_comesAt, Cond.instanceMethod yX0_comesAt, Cond.selects RX0 yX0_comesAt yX0_comesAt, Cond.code yX0_comesAt cX0_comesAt 2 (some .boolean), Cond.methodLink RX2 89 yX2_tickWith, Cond.instanceMethod yX2_tickWith]
def wsX7_runs_r4 : List Cond := [Cond.selects RX2 yX2_tickWith yX2_tickWith, Cond.code yX2_tickWith cX2_tickWith 4 (some .int), Cond.methodLink RX2 81 yX2_admit, Cond.instanceMethod yX2_admit, Cond.selects RX2 yX2_admit yX2_admit, Cond.code yX2_admit cX2_admit 4 (some .int), Cond.constant RX2 74 (99999), Cond.methodLink RX2 75 Lib.Math.min.name, Cond.static Lib.Math.min.name, Cond.code Lib.Math.min.name Lib.Math.min.code 2 (some .int), Cond.methodLink RX2 70 yX1_admit, Cond.instanceMethod yX1_admit, Cond.selects RX1 yX1_admit yX1_admit, Cond.code yX1_admit cX1_admit 3 (some .int), Cond.methodLink RX1 31 Lib.Math.min.name, Cond.methodLink RX1 37 yX1_room, Cond.instanceMethod yX1_room, Cond.selects RX1 yX1_room yX1_room, Cond.code yX1_room cX1_room 1 (some .int), Cond.methodLink RX2 82 yX1_settle, Cond.instanceMethod yX1_settle, Cond.selects RX1 yX1_settle yX1_settle, Cond.code yX1_settle cX1_settle 2 none, Cond.methodLink RX1 41 Lib.Math.max.name]
def wsX7_runs_r5 : List Cond := [Cond.methodLink RX7 186 yX2_heldByAll, Cond.instanceMethod yX2_heldByAll, Cond.selects RX2 yX2_heldByAll yX2_heldByAll, Cond.code yX2_heldByAll cX2_heldByAll 3 (some .int), Cond.fieldLink RX2 95 "TokenDoors$Door" "holds" "I"]
def wsX7_runs : List Cond := .code yX7_runs cX7_runs 8 (some .int) :: ((wsX7_runs_r1 ++ (wsX7_runs_r2 ++ (wsX7_runs_r3 ++ (wsX7_runs_r4 ++ wsX7_runs_r5)))) ++ wsX70 ++ wsX20 ++ wsX00 ++ wsX10)
def wsX7_ahead_r1 : List Cond := [Cond.fieldLink RX7 16 "TokenDoors" "trial" "LTokenDoors$Hall;", Cond.fieldLink RX7 115 "TokenDoors$Hall" "doors" "[LTokenDoors$Door;", Cond.fieldLink RX7 189 "TokenDoors$Door" "holds" "I", Cond.methodLink RX7 112 yX7_isDoor, Cond.instanceMethod yX7_isDoor, Cond.selects RX7 yX7_isDoor yX7_isDoor, Cond.initialized RX7, Cond.code yX7_isDoor cX7_isDoor 2 (some .boolean), Cond.fieldLink RX7 10 "TokenDoors" "now" "LTokenDoors$Hall;", Cond.fieldLink RX7 91 "TokenDoors$Hall" "doorCount" "I", Cond.methodLink RX7 168 yX7_isRun, Cond.static yX7_isRun, Cond.code yX7_isRun cX7_isRun 1 (some .boolean), Cond.methodLink RX7 174 yX7_startTrial, Cond.instanceMethod yX7_startTrial, Cond.selects RX7 yX7_startTrial yX7_startTrial, Cond.code yX7_startTrial cX7_startTrial 1 none, Cond.methodLink RX7 84 yX2_become, Cond.instanceMethod yX2_become, Cond.selects RX2 yX2_become yX2_become, Cond.initialized RX2, Cond.code yX2_become cX2_become 4 none, Cond.fieldLink RX2 25 "TokenDoors$Hall" "doorCount" "I", Cond.fieldLink RX2 11 "TokenDoors$Hall" "doors" "[LTokenDoors$Door;"]
def wsX7_ahead_r2 : List Cond := [Cond.fieldLink RX2 29 "TokenDoors$Hall" "crowdCount" "I", Cond.fieldLink RX2 19 "TokenDoors$Hall" "crowds" "[LTokenDoors$Crowd;", Cond.fieldLink RX2 45 "TokenDoors$Crowd" "start" "I", Cond.fieldLink RX2 48 "TokenDoors$Crowd" "many" "I", Cond.fieldLink RX2 51 "TokenDoors$Crowd" "every" "I", Cond.fieldLink RX2 32 "TokenDoors$Hall" "tick" "I", Cond.fieldLink RX2 35 "TokenDoors$Hall" "let" "I", Cond.fieldLink RX2 38 "TokenDoors$Hall" "turned" "I", Cond.methodLink RX2 41 yX1_become, Cond.instanceMethod yX1_become, Cond.selects RX1 yX1_become yX1_become, Cond.initialized RX1, Cond.code yX1_become cX1_become 2 none, Cond.fieldLink RX1 9 "TokenDoors$Door" "kind" "I", Cond.fieldLink RX1 15 "TokenDoors$Door" "depth" "I", Cond.fieldLink RX1 18 "TokenDoors$Door" "rate" "I", Cond.fieldLink RX1 21 "TokenDoors$Door" "holds" "I", Cond.methodLink RX2 54 yX0_make, Cond.instanceMethod yX0_make, Cond.selects RX0 yX0_make yX0_make, Cond.initialized RX0, Cond.code yX0_make cX0_make 4 none, Cond.fieldLink RX0 7 "TokenDoors$Crowd" "start" "I", Cond.fieldLink RX0 13 "TokenDoors$Crowd" "many" "I"]
def wsX7_ahead_r3 : List Cond := [Cond.fieldLink RX0 16 "TokenDoors$Crowd" "every" "I", Cond.methodLink RX7 299 yX2_countAnew, Cond.instanceMethod yX2_countAnew, Cond.selects RX2 yX2_countAnew yX2_countAnew, Cond.code yX2_countAnew cX2_countAnew 2 none, Cond.methodLink RX2 58 yX1_countAnew, Cond.instanceMethod yX1_countAnew, Cond.selects RX1 yX1_countAnew yX1_countAnew, Cond.code yX1_countAnew cX1_countAnew 1 none, Cond.fieldLink RX1 24 "TokenDoors$Door" "refused" "I", Cond.fieldLink RX1 27 "TokenDoors$Door" "standsOpen" "Z", Cond.methodLink RX7 171 yX2_runOn, Cond.instanceMethod yX2_runOn, Cond.selects RX2 yX2_runOn yX2_runOn, Cond.code yX2_runOn cX2_runOn 4 (some .int), Cond.methodLink RX2 92 yX2_tickOn, Cond.instanceMethod yX2_tickOn, Cond.selects RX2 yX2_tickOn yX2_tickOn, Cond.code yX2_tickOn cX2_tickOn 1 (some .int), Cond.methodLink RX2 86 yX2_comers, Cond.instanceMethod yX2_comers, Cond.selects RX2 yX2_comers yX2_comers, Cond.code yX2_comers cX2_comers 3 (some .int), Cond.methodLink RX2 62 yX0_comesAt]
def wsX7_ahead_r4 : List Cond := [Cond.instanceMethod yX0_comesAt, Cond.selects RX0 yX0_comesAt yX0_comesAt, Cond.code yX0_comesAt cX0_comesAt 2 (some .boolean), Cond.methodLink RX2 89 yX2_tickWith, Cond.instanceMethod yX2_tickWith, Cond.selects RX2 yX2_tickWith yX2_tickWith, Cond.code yX2_tickWith cX2_tickWith 4 (some .int), Cond.methodLink RX2 81 yX2_admit, Cond.instanceMethod yX2_admit, Cond.selects RX2 yX2_admit yX2_admit, Cond.code yX2_admit cX2_admit 4 (some .int), Cond.constant RX2 74 (99999), Cond.methodLink RX2 75 Lib.Math.min.name, Cond.static Lib.Math.min.name, Cond.initialized "java/lang/Math", Cond.code Lib.Math.min.name Lib.Math.min.code 2 (some .int), Cond.methodLink RX2 70 yX1_admit, Cond.instanceMethod yX1_admit, Cond.selects RX1 yX1_admit yX1_admit, Cond.code yX1_admit cX1_admit 3 (some .int), Cond.methodLink RX1 31 Lib.Math.min.name, Cond.methodLink RX1 37 yX1_room, Cond.instanceMethod yX1_room, Cond.selects RX1 yX1_room yX1_room]
def wsX7_ahead_r5 : List Cond := [Cond.code yX1_room cX1_room 1 (some .int), Cond.methodLink RX2 82 yX1_settle, Cond.instanceMethod yX1_settle, Cond.selects RX1 yX1_settle yX1_settle, Cond.code yX1_settle cX1_settle 2 none, Cond.methodLink RX1 41 Lib.Math.max.name, Cond.static Lib.Math.max.name, Cond.code Lib.Math.max.name Lib.Math.max.code 2 (some .int)]
def wsX7_ahead : List Cond := .code yX7_ahead cX7_ahead 3 (some .int) :: ((wsX7_ahead_r1 ++ (wsX7_ahead_r2 ++ (wsX7_ahead_r3 ++ (wsX7_ahead_r4 ++ wsX7_ahead_r5)))) ++ wsX70 ++ wsX20 ++ wsX10 ++ wsX00)
def wsX7_lets_r1 : List Cond := [Cond.fieldLink RX7 16 "TokenDoors" "trial" "LTokenDoors$Hall;", Cond.methodLink RX7 168 yX7_isRun, Cond.static yX7_isRun, Cond.initialized RX7, Cond.code yX7_isRun cX7_isRun 1 (some .boolean), Cond.methodLink RX7 174 yX7_startTrial, Cond.instanceMethod yX7_startTrial, Cond.selects RX7 yX7_startTrial yX7_startTrial, Cond.code yX7_startTrial cX7_startTrial 1 none, Cond.fieldLink RX7 10 "TokenDoors" "now" "LTokenDoors$Hall;", Cond.methodLink RX7 84 yX2_become, Cond.instanceMethod yX2_become, Cond.selects RX2 yX2_become yX2_become, Cond.initialized RX2, Cond.code yX2_become cX2_become 4 none, Cond.fieldLink RX2 25 "TokenDoors$Hall" "doorCount" "I", Cond.fieldLink RX2 11 "TokenDoors$Hall" "doors" "[LTokenDoors$Door;", Cond.fieldLink RX2 29 "TokenDoors$Hall" "crowdCount" "I", Cond.fieldLink RX2 19 "TokenDoors$Hall" "crowds" "[LTokenDoors$Crowd;", Cond.fieldLink RX2 45 "TokenDoors$Crowd" "start" "I", Cond.fieldLink RX2 48 "TokenDoors$Crowd" "many" "I", Cond.fieldLink RX2 51 "TokenDoors$Crowd" "every" "I", Cond.fieldLink RX2 32 "TokenDoors$Hall" "tick" "I", Cond.fieldLink RX2 35 "TokenDoors$Hall" "let" "I"]
def wsX7_lets_r2 : List Cond := [Cond.fieldLink RX2 38 "TokenDoors$Hall" "turned" "I", Cond.methodLink RX2 41 yX1_become, Cond.instanceMethod yX1_become, Cond.selects RX1 yX1_become yX1_become, Cond.initialized RX1, Cond.code yX1_become cX1_become 2 none, Cond.fieldLink RX1 9 "TokenDoors$Door" "kind" "I", Cond.fieldLink RX1 15 "TokenDoors$Door" "depth" "I", Cond.fieldLink RX1 18 "TokenDoors$Door" "rate" "I", Cond.fieldLink RX1 21 "TokenDoors$Door" "holds" "I", Cond.methodLink RX2 54 yX0_make, Cond.instanceMethod yX0_make, Cond.selects RX0 yX0_make yX0_make, Cond.initialized RX0, Cond.code yX0_make cX0_make 4 none, Cond.fieldLink RX0 7 "TokenDoors$Crowd" "start" "I", Cond.fieldLink RX0 13 "TokenDoors$Crowd" "many" "I", Cond.fieldLink RX0 16 "TokenDoors$Crowd" "every" "I", Cond.methodLink RX7 299 yX2_countAnew, Cond.instanceMethod yX2_countAnew, Cond.selects RX2 yX2_countAnew yX2_countAnew, Cond.code yX2_countAnew cX2_countAnew 2 none, Cond.methodLink RX2 58 yX1_countAnew, Cond.instanceMethod yX1_countAnew]
def wsX7_lets_r3 : List Cond := [Cond.selects RX1 yX1_countAnew yX1_countAnew, Cond.code yX1_countAnew cX1_countAnew 1 none, Cond.fieldLink RX1 24 "TokenDoors$Door" "refused" "I", Cond.fieldLink RX1 27 "TokenDoors$Door" "standsOpen" "Z", Cond.methodLink RX7 171 yX2_runOn, Cond.instanceMethod yX2_runOn, Cond.selects RX2 yX2_runOn yX2_runOn, Cond.code yX2_runOn cX2_runOn 4 (some .int), Cond.methodLink RX2 92 yX2_tickOn, Cond.instanceMethod yX2_tickOn, Cond.selects RX2 yX2_tickOn yX2_tickOn, Cond.code yX2_tickOn cX2_tickOn 1 (some .int), Cond.methodLink RX2 86 yX2_comers, Cond.instanceMethod yX2_comers, Cond.selects RX2 yX2_comers yX2_comers, Cond.code yX2_comers cX2_comers 3 (some .int), Cond.methodLink RX2 62 yX0_comesAt, Cond.instanceMethod yX0_comesAt, Cond.selects RX0 yX0_comesAt yX0_comesAt, Cond.code yX0_comesAt cX0_comesAt 2 (some .boolean), Cond.methodLink RX2 89 yX2_tickWith, Cond.instanceMethod yX2_tickWith, Cond.selects RX2 yX2_tickWith yX2_tickWith, Cond.code yX2_tickWith cX2_tickWith 4 (some .int)]
def wsX7_lets_r4 : List Cond := [Cond.methodLink RX2 81 yX2_admit, Cond.instanceMethod yX2_admit, Cond.selects RX2 yX2_admit yX2_admit, Cond.code yX2_admit cX2_admit 4 (some .int), Cond.constant RX2 74 (99999), Cond.methodLink RX2 75 Lib.Math.min.name, Cond.static Lib.Math.min.name, Cond.initialized "java/lang/Math", Cond.code Lib.Math.min.name Lib.Math.min.code 2 (some .int), Cond.methodLink RX2 70 yX1_admit, Cond.instanceMethod yX1_admit, Cond.selects RX1 yX1_admit yX1_admit, Cond.code yX1_admit cX1_admit 3 (some .int), Cond.methodLink RX1 31 Lib.Math.min.name, Cond.methodLink RX1 37 yX1_room, Cond.instanceMethod yX1_room, Cond.selects RX1 yX1_room yX1_room, Cond.code yX1_room cX1_room 1 (some .int), Cond.methodLink RX2 82 yX1_settle, Cond.instanceMethod yX1_settle, Cond.selects RX1 yX1_settle yX1_settle, Cond.code yX1_settle cX1_settle 2 none, Cond.methodLink RX1 41 Lib.Math.max.name, Cond.static Lib.Math.max.name]
def wsX7_lets_r5 : List Cond := [Cond.code Lib.Math.max.name Lib.Math.max.code 2 (some .int), Cond.methodLink RX7 177 yX2_tickOn]
def wsX7_lets : List Cond := .code yX7_lets cX7_lets 2 (some .int) :: ((wsX7_lets_r1 ++ (wsX7_lets_r2 ++ (wsX7_lets_r3 ++ (wsX7_lets_r4 ++ wsX7_lets_r5)))) ++ wsX70 ++ wsX20 ++ wsX00 ++ wsX10)
def wsX7_turns_r1 : List Cond := [Cond.fieldLink RX7 16 "TokenDoors" "trial" "LTokenDoors$Hall;", Cond.fieldLink RX7 115 "TokenDoors$Hall" "doors" "[LTokenDoors$Door;", Cond.fieldLink RX7 192 "TokenDoors$Door" "refused" "I", Cond.methodLink RX7 112 yX7_isDoor, Cond.instanceMethod yX7_isDoor, Cond.selects RX7 yX7_isDoor yX7_isDoor, Cond.initialized RX7, Cond.code yX7_isDoor cX7_isDoor 2 (some .boolean), Cond.fieldLink RX7 10 "TokenDoors" "now" "LTokenDoors$Hall;", Cond.fieldLink RX7 91 "TokenDoors$Hall" "doorCount" "I", Cond.methodLink RX7 168 yX7_isRun, Cond.static yX7_isRun, Cond.code yX7_isRun cX7_isRun 1 (some .boolean), Cond.methodLink RX7 174 yX7_startTrial, Cond.instanceMethod yX7_startTrial, Cond.selects RX7 yX7_startTrial yX7_startTrial, Cond.code yX7_startTrial cX7_startTrial 1 none, Cond.methodLink RX7 84 yX2_become, Cond.instanceMethod yX2_become, Cond.selects RX2 yX2_become yX2_become, Cond.initialized RX2, Cond.code yX2_become cX2_become 4 none, Cond.fieldLink RX2 25 "TokenDoors$Hall" "doorCount" "I", Cond.fieldLink RX2 11 "TokenDoors$Hall" "doors" "[LTokenDoors$Door;"]
def wsX7_turns_r2 : List Cond := [Cond.fieldLink RX2 29 "TokenDoors$Hall" "crowdCount" "I", Cond.fieldLink RX2 19 "TokenDoors$Hall" "crowds" "[LTokenDoors$Crowd;", Cond.fieldLink RX2 45 "TokenDoors$Crowd" "start" "I", Cond.fieldLink RX2 48 "TokenDoors$Crowd" "many" "I", Cond.fieldLink RX2 51 "TokenDoors$Crowd" "every" "I", Cond.fieldLink RX2 32 "TokenDoors$Hall" "tick" "I", Cond.fieldLink RX2 35 "TokenDoors$Hall" "let" "I", Cond.fieldLink RX2 38 "TokenDoors$Hall" "turned" "I", Cond.methodLink RX2 41 yX1_become, Cond.instanceMethod yX1_become, Cond.selects RX1 yX1_become yX1_become, Cond.initialized RX1, Cond.code yX1_become cX1_become 2 none, Cond.fieldLink RX1 9 "TokenDoors$Door" "kind" "I", Cond.fieldLink RX1 15 "TokenDoors$Door" "depth" "I", Cond.fieldLink RX1 18 "TokenDoors$Door" "rate" "I", Cond.fieldLink RX1 21 "TokenDoors$Door" "holds" "I", Cond.methodLink RX2 54 yX0_make, Cond.instanceMethod yX0_make, Cond.selects RX0 yX0_make yX0_make, Cond.initialized RX0, Cond.code yX0_make cX0_make 4 none, Cond.fieldLink RX0 7 "TokenDoors$Crowd" "start" "I", Cond.fieldLink RX0 13 "TokenDoors$Crowd" "many" "I"]
def wsX7_turns_r3 : List Cond := [Cond.fieldLink RX0 16 "TokenDoors$Crowd" "every" "I", Cond.methodLink RX7 299 yX2_countAnew, Cond.instanceMethod yX2_countAnew, Cond.selects RX2 yX2_countAnew yX2_countAnew, Cond.code yX2_countAnew cX2_countAnew 2 none, Cond.methodLink RX2 58 yX1_countAnew, Cond.instanceMethod yX1_countAnew, Cond.selects RX1 yX1_countAnew yX1_countAnew, Cond.code yX1_countAnew cX1_countAnew 1 none, Cond.fieldLink RX1 24 "TokenDoors$Door" "refused" "I", Cond.fieldLink RX1 27 "TokenDoors$Door" "standsOpen" "Z", Cond.methodLink RX7 171 yX2_runOn, Cond.instanceMethod yX2_runOn, Cond.selects RX2 yX2_runOn yX2_runOn, Cond.code yX2_runOn cX2_runOn 4 (some .int), Cond.methodLink RX2 92 yX2_tickOn, Cond.instanceMethod yX2_tickOn, Cond.selects RX2 yX2_tickOn yX2_tickOn, Cond.code yX2_tickOn cX2_tickOn 1 (some .int), Cond.methodLink RX2 86 yX2_comers, Cond.instanceMethod yX2_comers, Cond.selects RX2 yX2_comers yX2_comers, Cond.code yX2_comers cX2_comers 3 (some .int), Cond.methodLink RX2 62 yX0_comesAt]
def wsX7_turns_r4 : List Cond := [Cond.instanceMethod yX0_comesAt, Cond.selects RX0 yX0_comesAt yX0_comesAt, Cond.code yX0_comesAt cX0_comesAt 2 (some .boolean), Cond.methodLink RX2 89 yX2_tickWith, Cond.instanceMethod yX2_tickWith, Cond.selects RX2 yX2_tickWith yX2_tickWith, Cond.code yX2_tickWith cX2_tickWith 4 (some .int), Cond.methodLink RX2 81 yX2_admit, Cond.instanceMethod yX2_admit, Cond.selects RX2 yX2_admit yX2_admit, Cond.code yX2_admit cX2_admit 4 (some .int), Cond.constant RX2 74 (99999), Cond.methodLink RX2 75 Lib.Math.min.name, Cond.static Lib.Math.min.name, Cond.initialized "java/lang/Math", Cond.code Lib.Math.min.name Lib.Math.min.code 2 (some .int), Cond.methodLink RX2 70 yX1_admit, Cond.instanceMethod yX1_admit, Cond.selects RX1 yX1_admit yX1_admit, Cond.code yX1_admit cX1_admit 3 (some .int), Cond.methodLink RX1 31 Lib.Math.min.name, Cond.methodLink RX1 37 yX1_room, Cond.instanceMethod yX1_room, Cond.selects RX1 yX1_room yX1_room]
def wsX7_turns_r5 : List Cond := [Cond.code yX1_room cX1_room 1 (some .int), Cond.methodLink RX2 82 yX1_settle, Cond.instanceMethod yX1_settle, Cond.selects RX1 yX1_settle yX1_settle, Cond.code yX1_settle cX1_settle 2 none, Cond.methodLink RX1 41 Lib.Math.max.name, Cond.static Lib.Math.max.name, Cond.code Lib.Math.max.name Lib.Math.max.code 2 (some .int)]
def wsX7_turns : List Cond := .code yX7_turns cX7_turns 3 (some .int) :: ((wsX7_turns_r1 ++ (wsX7_turns_r2 ++ (wsX7_turns_r3 ++ (wsX7_turns_r4 ++ wsX7_turns_r5)))) ++ wsX70 ++ wsX20 ++ wsX10 ++ wsX00)
def wsX7_when_r1 : List Cond := [Cond.fieldLink RX7 16 "TokenDoors" "trial" "LTokenDoors$Hall;", Cond.fieldLink RX7 103 "TokenDoors$Hall" "turned" "I", Cond.methodLink RX7 174 yX7_startTrial, Cond.instanceMethod yX7_startTrial, Cond.selects RX7 yX7_startTrial yX7_startTrial, Cond.initialized RX7, Cond.code yX7_startTrial cX7_startTrial 1 none, Cond.fieldLink RX7 10 "TokenDoors" "now" "LTokenDoors$Hall;", Cond.methodLink RX7 84 yX2_become, Cond.instanceMethod yX2_become, Cond.selects RX2 yX2_become yX2_become, Cond.initialized RX2, Cond.code yX2_become cX2_become 4 none, Cond.fieldLink RX2 25 "TokenDoors$Hall" "doorCount" "I", Cond.fieldLink RX2 11 "TokenDoors$Hall" "doors" "[LTokenDoors$Door;", Cond.fieldLink RX2 29 "TokenDoors$Hall" "crowdCount" "I", Cond.fieldLink RX2 19 "TokenDoors$Hall" "crowds" "[LTokenDoors$Crowd;", Cond.fieldLink RX2 45 "TokenDoors$Crowd" "start" "I", Cond.fieldLink RX2 48 "TokenDoors$Crowd" "many" "I", Cond.fieldLink RX2 51 "TokenDoors$Crowd" "every" "I", Cond.fieldLink RX2 32 "TokenDoors$Hall" "tick" "I", Cond.fieldLink RX2 35 "TokenDoors$Hall" "let" "I", Cond.fieldLink RX2 38 "TokenDoors$Hall" "turned" "I", Cond.methodLink RX2 41 yX1_become]
def wsX7_when_r2 : List Cond := [Cond.instanceMethod yX1_become, Cond.selects RX1 yX1_become yX1_become, Cond.initialized RX1, Cond.code yX1_become cX1_become 2 none, Cond.fieldLink RX1 9 "TokenDoors$Door" "kind" "I", Cond.fieldLink RX1 15 "TokenDoors$Door" "depth" "I", Cond.fieldLink RX1 18 "TokenDoors$Door" "rate" "I", Cond.fieldLink RX1 21 "TokenDoors$Door" "holds" "I", Cond.methodLink RX2 54 yX0_make, Cond.instanceMethod yX0_make, Cond.selects RX0 yX0_make yX0_make, Cond.initialized RX0, Cond.code yX0_make cX0_make 4 none, Cond.fieldLink RX0 7 "TokenDoors$Crowd" "start" "I", Cond.fieldLink RX0 13 "TokenDoors$Crowd" "many" "I", Cond.fieldLink RX0 16 "TokenDoors$Crowd" "every" "I", Cond.methodLink RX7 299 yX2_countAnew, Cond.instanceMethod yX2_countAnew, Cond.selects RX2 yX2_countAnew yX2_countAnew, Cond.code yX2_countAnew cX2_countAnew 2 none, Cond.methodLink RX2 58 yX1_countAnew, Cond.instanceMethod yX1_countAnew, Cond.selects RX1 yX1_countAnew yX1_countAnew, Cond.code yX1_countAnew cX1_countAnew 1 none]
def wsX7_when_r3 : List Cond := [Cond.fieldLink RX1 24 "TokenDoors$Door" "refused" "I", Cond.fieldLink RX1 27 "TokenDoors$Door" "standsOpen" "Z", Cond.methodLink RX7 177 yX2_tickOn, Cond.instanceMethod yX2_tickOn, Cond.selects RX2 yX2_tickOn yX2_tickOn, Cond.code yX2_tickOn cX2_tickOn 1 (some .int), Cond.methodLink RX2 86 yX2_comers, Cond.instanceMethod yX2_comers, Cond.selects RX2 yX2_comers yX2_comers, Cond.code yX2_comers cX2_comers 3 (some .int), Cond.methodLink RX2 62 yX0_comesAt, Cond.instanceMethod yX0_comesAt, Cond.selects RX0 yX0_comesAt yX0_comesAt, Cond.code yX0_comesAt cX0_comesAt 2 (some .boolean), Cond.methodLink RX2 89 yX2_tickWith, Cond.instanceMethod yX2_tickWith, Cond.selects RX2 yX2_tickWith yX2_tickWith, Cond.code yX2_tickWith cX2_tickWith 4 (some .int), Cond.methodLink RX2 81 yX2_admit, Cond.instanceMethod yX2_admit, Cond.selects RX2 yX2_admit yX2_admit, Cond.code yX2_admit cX2_admit 4 (some .int), Cond.constant RX2 74 (99999), Cond.methodLink RX2 75 Lib.Math.min.name]
def wsX7_when_r4 : List Cond := [Cond.static Lib.Math.min.name, Cond.initialized "java/lang/Math", Cond.code Lib.Math.min.name Lib.Math.min.code 2 (some .int), Cond.methodLink RX2 70 yX1_admit, Cond.instanceMethod yX1_admit, Cond.selects RX1 yX1_admit yX1_admit, Cond.code yX1_admit cX1_admit 3 (some .int), Cond.methodLink RX1 31 Lib.Math.min.name, Cond.methodLink RX1 37 yX1_room, Cond.instanceMethod yX1_room, Cond.selects RX1 yX1_room yX1_room, Cond.code yX1_room cX1_room 1 (some .int), Cond.methodLink RX2 82 yX1_settle, Cond.instanceMethod yX1_settle, Cond.selects RX1 yX1_settle yX1_settle, Cond.code yX1_settle cX1_settle 2 none, Cond.methodLink RX1 41 Lib.Math.max.name, Cond.static Lib.Math.max.name, Cond.code Lib.Math.max.name Lib.Math.max.code 2 (some .int)]
def wsX7_when : List Cond := .code yX7_when cX7_when 2 (some .int) :: ((wsX7_when_r1 ++ (wsX7_when_r2 ++ (wsX7_when_r3 ++ wsX7_when_r4))) ++ wsX70 ++ wsX20 ++ wsX00 ++ wsX10)
def wsX7_leastUnrefusing_r1 : List Cond := [Cond.fieldLink RX7 16 "TokenDoors" "trial" "LTokenDoors$Hall;", Cond.fieldLink RX7 115 "TokenDoors$Hall" "doors" "[LTokenDoors$Door;", Cond.fieldLink RX7 192 "TokenDoors$Door" "refused" "I", Cond.methodLink RX7 293 yX7_lowest, Cond.static yX7_lowest, Cond.initialized RX7, Cond.code yX7_lowest cX7_lowest 1 (some .int), Cond.methodLink RX7 296 yX7_highest, Cond.static yX7_highest, Cond.code yX7_highest cX7_highest 1 (some .int), Cond.methodLink RX7 174 yX7_startTrial, Cond.instanceMethod yX7_startTrial, Cond.selects RX7 yX7_startTrial yX7_startTrial, Cond.code yX7_startTrial cX7_startTrial 1 none, Cond.fieldLink RX7 10 "TokenDoors" "now" "LTokenDoors$Hall;", Cond.methodLink RX7 84 yX2_become, Cond.instanceMethod yX2_become, Cond.selects RX2 yX2_become yX2_become, Cond.initialized RX2, Cond.code yX2_become cX2_become 4 none, Cond.fieldLink RX2 25 "TokenDoors$Hall" "doorCount" "I", Cond.fieldLink RX2 11 "TokenDoors$Hall" "doors" "[LTokenDoors$Door;", Cond.fieldLink RX2 29 "TokenDoors$Hall" "crowdCount" "I", Cond.fieldLink RX2 19 "TokenDoors$Hall" "crowds" "[LTokenDoors$Crowd;"]
def wsX7_leastUnrefusing_r2 : List Cond := [Cond.fieldLink RX2 45 "TokenDoors$Crowd" "start" "I", Cond.fieldLink RX2 48 "TokenDoors$Crowd" "many" "I", Cond.fieldLink RX2 51 "TokenDoors$Crowd" "every" "I", Cond.fieldLink RX2 32 "TokenDoors$Hall" "tick" "I", Cond.fieldLink RX2 35 "TokenDoors$Hall" "let" "I", Cond.fieldLink RX2 38 "TokenDoors$Hall" "turned" "I", Cond.methodLink RX2 41 yX1_become, Cond.instanceMethod yX1_become, Cond.selects RX1 yX1_become yX1_become, Cond.initialized RX1, Cond.code yX1_become cX1_become 2 none, Cond.fieldLink RX1 9 "TokenDoors$Door" "kind" "I", Cond.fieldLink RX1 15 "TokenDoors$Door" "depth" "I", Cond.fieldLink RX1 18 "TokenDoors$Door" "rate" "I", Cond.fieldLink RX1 21 "TokenDoors$Door" "holds" "I", Cond.methodLink RX2 54 yX0_make, Cond.instanceMethod yX0_make, Cond.selects RX0 yX0_make yX0_make, Cond.initialized RX0, Cond.code yX0_make cX0_make 4 none, Cond.fieldLink RX0 7 "TokenDoors$Crowd" "start" "I", Cond.fieldLink RX0 13 "TokenDoors$Crowd" "many" "I", Cond.fieldLink RX0 16 "TokenDoors$Crowd" "every" "I", Cond.methodLink RX7 299 yX2_countAnew]
def wsX7_leastUnrefusing_r3 : List Cond := [Cond.instanceMethod yX2_countAnew, Cond.selects RX2 yX2_countAnew yX2_countAnew, Cond.code yX2_countAnew cX2_countAnew 2 none, Cond.methodLink RX2 58 yX1_countAnew, Cond.instanceMethod yX1_countAnew, Cond.selects RX1 yX1_countAnew yX1_countAnew, Cond.code yX1_countAnew cX1_countAnew 1 none, Cond.fieldLink RX1 24 "TokenDoors$Door" "refused" "I", Cond.fieldLink RX1 27 "TokenDoors$Door" "standsOpen" "Z", Cond.methodLink RX7 148 yX1_change, Cond.instanceMethod yX1_change, Cond.selects RX1 yX1_change yX1_change, Cond.code yX1_change cX1_change 3 none, Cond.methodLink RX1 31 Lib.Math.min.name, Cond.static Lib.Math.min.name, Cond.initialized "java/lang/Math", Cond.code Lib.Math.min.name Lib.Math.min.code 2 (some .int), Cond.methodLink RX7 171 yX2_runOn, Cond.instanceMethod yX2_runOn, Cond.selects RX2 yX2_runOn yX2_runOn, Cond.code yX2_runOn cX2_runOn 4 (some .int), Cond.methodLink RX2 92 yX2_tickOn, Cond.instanceMethod yX2_tickOn, Cond.selects RX2 yX2_tickOn yX2_tickOn]
def wsX7_leastUnrefusing_r4 : List Cond := [Cond.code yX2_tickOn cX2_tickOn 1 (some .int), Cond.methodLink RX2 86 yX2_comers, Cond.instanceMethod yX2_comers, Cond.selects RX2 yX2_comers yX2_comers, Cond.code yX2_comers cX2_comers 3 (some .int), Cond.methodLink RX2 62 yX0_comesAt, Cond.instanceMethod yX0_comesAt, Cond.selects RX0 yX0_comesAt yX0_comesAt, Cond.code yX0_comesAt cX0_comesAt 2 (some .boolean), Cond.methodLink RX2 89 yX2_tickWith, Cond.instanceMethod yX2_tickWith, Cond.selects RX2 yX2_tickWith yX2_tickWith, Cond.code yX2_tickWith cX2_tickWith 4 (some .int), Cond.methodLink RX2 81 yX2_admit, Cond.instanceMethod yX2_admit, Cond.selects RX2 yX2_admit yX2_admit, Cond.code yX2_admit cX2_admit 4 (some .int), Cond.constant RX2 74 (99999), Cond.methodLink RX2 75 Lib.Math.min.name, Cond.methodLink RX2 70 yX1_admit, Cond.instanceMethod yX1_admit, Cond.selects RX1 yX1_admit yX1_admit, Cond.code yX1_admit cX1_admit 3 (some .int), Cond.methodLink RX1 37 yX1_room]
def wsX7_leastUnrefusing_r5 : List Cond := [Cond.instanceMethod yX1_room, Cond.selects RX1 yX1_room yX1_room, Cond.code yX1_room cX1_room 1 (some .int), Cond.methodLink RX2 82 yX1_settle, Cond.instanceMethod yX1_settle, Cond.selects RX1 yX1_settle yX1_settle, Cond.code yX1_settle cX1_settle 2 none, Cond.methodLink RX1 41 Lib.Math.max.name, Cond.static Lib.Math.max.name, Cond.code Lib.Math.max.name Lib.Math.max.code 2 (some .int)]
def wsX7_leastUnrefusing : List Cond := .code yX7_leastUnrefusing cX7_leastUnrefusing 5 (some .int) :: ((wsX7_leastUnrefusing_r1 ++ (wsX7_leastUnrefusing_r2 ++ (wsX7_leastUnrefusing_r3 ++ (wsX7_leastUnrefusing_r4 ++ wsX7_leastUnrefusing_r5)))) ++ wsX70 ++ wsX20 ++ wsX10 ++ wsX00)
def wsX7_depth_r1 : List Cond := [Cond.methodLink RX7 112 yX7_isDoor, Cond.instanceMethod yX7_isDoor, Cond.selects RX7 yX7_isDoor yX7_isDoor, Cond.initialized RX7, Cond.code yX7_isDoor cX7_isDoor 2 (some .boolean), Cond.fieldLink RX7 10 "TokenDoors" "now" "LTokenDoors$Hall;", Cond.fieldLink RX7 91 "TokenDoors$Hall" "doorCount" "I", Cond.methodLink RX7 168 yX7_isRun, Cond.static yX7_isRun, Cond.code yX7_isRun cX7_isRun 1 (some .boolean), Cond.methodLink RX7 195 yX7_leastUnrefusing, Cond.instanceMethod yX7_leastUnrefusing, Cond.selects RX7 yX7_leastUnrefusing yX7_leastUnrefusing, Cond.code yX7_leastUnrefusing cX7_leastUnrefusing 5 (some .int), Cond.fieldLink RX7 16 "TokenDoors" "trial" "LTokenDoors$Hall;", Cond.fieldLink RX7 115 "TokenDoors$Hall" "doors" "[LTokenDoors$Door;", Cond.fieldLink RX7 192 "TokenDoors$Door" "refused" "I", Cond.methodLink RX7 293 yX7_lowest, Cond.static yX7_lowest, Cond.code yX7_lowest cX7_lowest 1 (some .int), Cond.methodLink RX7 296 yX7_highest, Cond.static yX7_highest, Cond.code yX7_highest cX7_highest 1 (some .int), Cond.methodLink RX7 174 yX7_startTrial]
def wsX7_depth_r2 : List Cond := [Cond.instanceMethod yX7_startTrial, Cond.selects RX7 yX7_startTrial yX7_startTrial, Cond.code yX7_startTrial cX7_startTrial 1 none, Cond.methodLink RX7 84 yX2_become, Cond.instanceMethod yX2_become, Cond.selects RX2 yX2_become yX2_become, Cond.initialized RX2, Cond.code yX2_become cX2_become 4 none, Cond.fieldLink RX2 25 "TokenDoors$Hall" "doorCount" "I", Cond.fieldLink RX2 11 "TokenDoors$Hall" "doors" "[LTokenDoors$Door;", Cond.fieldLink RX2 29 "TokenDoors$Hall" "crowdCount" "I", Cond.fieldLink RX2 19 "TokenDoors$Hall" "crowds" "[LTokenDoors$Crowd;", Cond.fieldLink RX2 45 "TokenDoors$Crowd" "start" "I", Cond.fieldLink RX2 48 "TokenDoors$Crowd" "many" "I", Cond.fieldLink RX2 51 "TokenDoors$Crowd" "every" "I", Cond.fieldLink RX2 32 "TokenDoors$Hall" "tick" "I", Cond.fieldLink RX2 35 "TokenDoors$Hall" "let" "I", Cond.fieldLink RX2 38 "TokenDoors$Hall" "turned" "I", Cond.methodLink RX2 41 yX1_become, Cond.instanceMethod yX1_become, Cond.selects RX1 yX1_become yX1_become, Cond.initialized RX1, Cond.code yX1_become cX1_become 2 none, Cond.fieldLink RX1 9 "TokenDoors$Door" "kind" "I"]
def wsX7_depth_r3 : List Cond := [Cond.fieldLink RX1 15 "TokenDoors$Door" "depth" "I", Cond.fieldLink RX1 18 "TokenDoors$Door" "rate" "I", Cond.fieldLink RX1 21 "TokenDoors$Door" "holds" "I", Cond.methodLink RX2 54 yX0_make, Cond.instanceMethod yX0_make, Cond.selects RX0 yX0_make yX0_make, Cond.initialized RX0, Cond.code yX0_make cX0_make 4 none, Cond.fieldLink RX0 7 "TokenDoors$Crowd" "start" "I", Cond.fieldLink RX0 13 "TokenDoors$Crowd" "many" "I", Cond.fieldLink RX0 16 "TokenDoors$Crowd" "every" "I", Cond.methodLink RX7 299 yX2_countAnew, Cond.instanceMethod yX2_countAnew, Cond.selects RX2 yX2_countAnew yX2_countAnew, Cond.code yX2_countAnew cX2_countAnew 2 none, Cond.methodLink RX2 58 yX1_countAnew, Cond.instanceMethod yX1_countAnew, Cond.selects RX1 yX1_countAnew yX1_countAnew, Cond.code yX1_countAnew cX1_countAnew 1 none, Cond.fieldLink RX1 24 "TokenDoors$Door" "refused" "I", Cond.fieldLink RX1 27 "TokenDoors$Door" "standsOpen" "Z", Cond.methodLink RX7 148 yX1_change, Cond.instanceMethod yX1_change, Cond.selects RX1 yX1_change yX1_change]
def wsX7_depth_r4 : List Cond := [Cond.code yX1_change cX1_change 3 none, Cond.methodLink RX1 31 Lib.Math.min.name, Cond.static Lib.Math.min.name, Cond.initialized "java/lang/Math", Cond.code Lib.Math.min.name Lib.Math.min.code 2 (some .int), Cond.methodLink RX7 171 yX2_runOn, Cond.instanceMethod yX2_runOn, Cond.selects RX2 yX2_runOn yX2_runOn, Cond.code yX2_runOn cX2_runOn 4 (some .int), Cond.methodLink RX2 92 yX2_tickOn, Cond.instanceMethod yX2_tickOn, Cond.selects RX2 yX2_tickOn yX2_tickOn, Cond.code yX2_tickOn cX2_tickOn 1 (some .int), Cond.methodLink RX2 86 yX2_comers, Cond.instanceMethod yX2_comers, Cond.selects RX2 yX2_comers yX2_comers, Cond.code yX2_comers cX2_comers 3 (some .int), Cond.methodLink RX2 62 yX0_comesAt, Cond.instanceMethod yX0_comesAt, Cond.selects RX0 yX0_comesAt yX0_comesAt, Cond.code yX0_comesAt cX0_comesAt 2 (some .boolean), Cond.methodLink RX2 89 yX2_tickWith, Cond.instanceMethod yX2_tickWith, Cond.selects RX2 yX2_tickWith yX2_tickWith]
def wsX7_depth_r5 : List Cond := [Cond.code yX2_tickWith cX2_tickWith 4 (some .int), Cond.methodLink RX2 81 yX2_admit, Cond.instanceMethod yX2_admit, Cond.selects RX2 yX2_admit yX2_admit, Cond.code yX2_admit cX2_admit 4 (some .int), Cond.constant RX2 74 (99999), Cond.methodLink RX2 75 Lib.Math.min.name, Cond.methodLink RX2 70 yX1_admit, Cond.instanceMethod yX1_admit, Cond.selects RX1 yX1_admit yX1_admit, Cond.code yX1_admit cX1_admit 3 (some .int), Cond.methodLink RX1 37 yX1_room, Cond.instanceMethod yX1_room, Cond.selects RX1 yX1_room yX1_room, Cond.code yX1_room cX1_room 1 (some .int), Cond.methodLink RX2 82 yX1_settle, Cond.instanceMethod yX1_settle, Cond.selects RX1 yX1_settle yX1_settle, Cond.code yX1_settle cX1_settle 2 none, Cond.methodLink RX1 41 Lib.Math.max.name, Cond.static Lib.Math.max.name, Cond.code Lib.Math.max.name Lib.Math.max.code 2 (some .int)]
def wsX7_depth : List Cond := .code yX7_depth cX7_depth 3 (some .int) :: ((wsX7_depth_r1 ++ (wsX7_depth_r2 ++ (wsX7_depth_r3 ++ (wsX7_depth_r4 ++ wsX7_depth_r5)))) ++ wsX70 ++ wsX20 ++ wsX10 ++ wsX00)
def wsX7_rate_r1 : List Cond := [Cond.methodLink RX7 112 yX7_isDoor, Cond.instanceMethod yX7_isDoor, Cond.selects RX7 yX7_isDoor yX7_isDoor, Cond.initialized RX7, Cond.code yX7_isDoor cX7_isDoor 2 (some .boolean), Cond.fieldLink RX7 10 "TokenDoors" "now" "LTokenDoors$Hall;", Cond.fieldLink RX7 91 "TokenDoors$Hall" "doorCount" "I", Cond.methodLink RX7 168 yX7_isRun, Cond.static yX7_isRun, Cond.code yX7_isRun cX7_isRun 1 (some .boolean), Cond.methodLink RX7 195 yX7_leastUnrefusing, Cond.instanceMethod yX7_leastUnrefusing, Cond.selects RX7 yX7_leastUnrefusing yX7_leastUnrefusing, Cond.code yX7_leastUnrefusing cX7_leastUnrefusing 5 (some .int), Cond.fieldLink RX7 16 "TokenDoors" "trial" "LTokenDoors$Hall;", Cond.fieldLink RX7 115 "TokenDoors$Hall" "doors" "[LTokenDoors$Door;", Cond.fieldLink RX7 192 "TokenDoors$Door" "refused" "I", Cond.methodLink RX7 293 yX7_lowest, Cond.static yX7_lowest, Cond.code yX7_lowest cX7_lowest 1 (some .int), Cond.methodLink RX7 296 yX7_highest, Cond.static yX7_highest, Cond.code yX7_highest cX7_highest 1 (some .int), Cond.methodLink RX7 174 yX7_startTrial]
def wsX7_rate_r2 : List Cond := [Cond.instanceMethod yX7_startTrial, Cond.selects RX7 yX7_startTrial yX7_startTrial, Cond.code yX7_startTrial cX7_startTrial 1 none, Cond.methodLink RX7 84 yX2_become, Cond.instanceMethod yX2_become, Cond.selects RX2 yX2_become yX2_become, Cond.initialized RX2, Cond.code yX2_become cX2_become 4 none, Cond.fieldLink RX2 25 "TokenDoors$Hall" "doorCount" "I", Cond.fieldLink RX2 11 "TokenDoors$Hall" "doors" "[LTokenDoors$Door;", Cond.fieldLink RX2 29 "TokenDoors$Hall" "crowdCount" "I", Cond.fieldLink RX2 19 "TokenDoors$Hall" "crowds" "[LTokenDoors$Crowd;", Cond.fieldLink RX2 45 "TokenDoors$Crowd" "start" "I", Cond.fieldLink RX2 48 "TokenDoors$Crowd" "many" "I", Cond.fieldLink RX2 51 "TokenDoors$Crowd" "every" "I", Cond.fieldLink RX2 32 "TokenDoors$Hall" "tick" "I", Cond.fieldLink RX2 35 "TokenDoors$Hall" "let" "I", Cond.fieldLink RX2 38 "TokenDoors$Hall" "turned" "I", Cond.methodLink RX2 41 yX1_become, Cond.instanceMethod yX1_become, Cond.selects RX1 yX1_become yX1_become, Cond.initialized RX1, Cond.code yX1_become cX1_become 2 none, Cond.fieldLink RX1 9 "TokenDoors$Door" "kind" "I"]
def wsX7_rate_r3 : List Cond := [Cond.fieldLink RX1 15 "TokenDoors$Door" "depth" "I", Cond.fieldLink RX1 18 "TokenDoors$Door" "rate" "I", Cond.fieldLink RX1 21 "TokenDoors$Door" "holds" "I", Cond.methodLink RX2 54 yX0_make, Cond.instanceMethod yX0_make, Cond.selects RX0 yX0_make yX0_make, Cond.initialized RX0, Cond.code yX0_make cX0_make 4 none, Cond.fieldLink RX0 7 "TokenDoors$Crowd" "start" "I", Cond.fieldLink RX0 13 "TokenDoors$Crowd" "many" "I", Cond.fieldLink RX0 16 "TokenDoors$Crowd" "every" "I", Cond.methodLink RX7 299 yX2_countAnew, Cond.instanceMethod yX2_countAnew, Cond.selects RX2 yX2_countAnew yX2_countAnew, Cond.code yX2_countAnew cX2_countAnew 2 none, Cond.methodLink RX2 58 yX1_countAnew, Cond.instanceMethod yX1_countAnew, Cond.selects RX1 yX1_countAnew yX1_countAnew, Cond.code yX1_countAnew cX1_countAnew 1 none, Cond.fieldLink RX1 24 "TokenDoors$Door" "refused" "I", Cond.fieldLink RX1 27 "TokenDoors$Door" "standsOpen" "Z", Cond.methodLink RX7 148 yX1_change, Cond.instanceMethod yX1_change, Cond.selects RX1 yX1_change yX1_change]
def wsX7_rate_r4 : List Cond := [Cond.code yX1_change cX1_change 3 none, Cond.methodLink RX1 31 Lib.Math.min.name, Cond.static Lib.Math.min.name, Cond.initialized "java/lang/Math", Cond.code Lib.Math.min.name Lib.Math.min.code 2 (some .int), Cond.methodLink RX7 171 yX2_runOn, Cond.instanceMethod yX2_runOn, Cond.selects RX2 yX2_runOn yX2_runOn, Cond.code yX2_runOn cX2_runOn 4 (some .int), Cond.methodLink RX2 92 yX2_tickOn, Cond.instanceMethod yX2_tickOn, Cond.selects RX2 yX2_tickOn yX2_tickOn, Cond.code yX2_tickOn cX2_tickOn 1 (some .int), Cond.methodLink RX2 86 yX2_comers, Cond.instanceMethod yX2_comers, Cond.selects RX2 yX2_comers yX2_comers, Cond.code yX2_comers cX2_comers 3 (some .int), Cond.methodLink RX2 62 yX0_comesAt, Cond.instanceMethod yX0_comesAt, Cond.selects RX0 yX0_comesAt yX0_comesAt, Cond.code yX0_comesAt cX0_comesAt 2 (some .boolean), Cond.methodLink RX2 89 yX2_tickWith, Cond.instanceMethod yX2_tickWith, Cond.selects RX2 yX2_tickWith yX2_tickWith]
def wsX7_rate_r5 : List Cond := [Cond.code yX2_tickWith cX2_tickWith 4 (some .int), Cond.methodLink RX2 81 yX2_admit, Cond.instanceMethod yX2_admit, Cond.selects RX2 yX2_admit yX2_admit, Cond.code yX2_admit cX2_admit 4 (some .int), Cond.constant RX2 74 (99999), Cond.methodLink RX2 75 Lib.Math.min.name, Cond.methodLink RX2 70 yX1_admit, Cond.instanceMethod yX1_admit, Cond.selects RX1 yX1_admit yX1_admit, Cond.code yX1_admit cX1_admit 3 (some .int), Cond.methodLink RX1 37 yX1_room, Cond.instanceMethod yX1_room, Cond.selects RX1 yX1_room yX1_room, Cond.code yX1_room cX1_room 1 (some .int), Cond.methodLink RX2 82 yX1_settle, Cond.instanceMethod yX1_settle, Cond.selects RX1 yX1_settle yX1_settle, Cond.code yX1_settle cX1_settle 2 none, Cond.methodLink RX1 41 Lib.Math.max.name, Cond.static Lib.Math.max.name, Cond.code Lib.Math.max.name Lib.Math.max.code 2 (some .int)]
def wsX7_rate : List Cond := .code yX7_rate cX7_rate 3 (some .int) :: ((wsX7_rate_r1 ++ (wsX7_rate_r2 ++ (wsX7_rate_r3 ++ (wsX7_rate_r4 ++ wsX7_rate_r5)))) ++ wsX70 ++ wsX20 ++ wsX10 ++ wsX00)
def wsX7_isChoice : List Cond := .code yX7_isChoice cX7_isChoice 1 (some .boolean) :: ([])
def wsX7_letAsItIs_r1 : List Cond := [Cond.fieldLink RX7 16 "TokenDoors" "trial" "LTokenDoors$Hall;", Cond.methodLink RX7 174 yX7_startTrial, Cond.instanceMethod yX7_startTrial, Cond.selects RX7 yX7_startTrial yX7_startTrial, Cond.initialized RX7, Cond.code yX7_startTrial cX7_startTrial 1 none, Cond.fieldLink RX7 10 "TokenDoors" "now" "LTokenDoors$Hall;", Cond.methodLink RX7 84 yX2_become, Cond.instanceMethod yX2_become, Cond.selects RX2 yX2_become yX2_become, Cond.initialized RX2, Cond.code yX2_become cX2_become 4 none, Cond.fieldLink RX2 25 "TokenDoors$Hall" "doorCount" "I", Cond.fieldLink RX2 11 "TokenDoors$Hall" "doors" "[LTokenDoors$Door;", Cond.fieldLink RX2 29 "TokenDoors$Hall" "crowdCount" "I", Cond.fieldLink RX2 19 "TokenDoors$Hall" "crowds" "[LTokenDoors$Crowd;", Cond.fieldLink RX2 45 "TokenDoors$Crowd" "start" "I", Cond.fieldLink RX2 48 "TokenDoors$Crowd" "many" "I", Cond.fieldLink RX2 51 "TokenDoors$Crowd" "every" "I", Cond.fieldLink RX2 32 "TokenDoors$Hall" "tick" "I", Cond.fieldLink RX2 35 "TokenDoors$Hall" "let" "I", Cond.fieldLink RX2 38 "TokenDoors$Hall" "turned" "I", Cond.methodLink RX2 41 yX1_become, Cond.instanceMethod yX1_become]
def wsX7_letAsItIs_r2 : List Cond := [Cond.selects RX1 yX1_become yX1_become, Cond.initialized RX1, Cond.code yX1_become cX1_become 2 none, Cond.fieldLink RX1 9 "TokenDoors$Door" "kind" "I", Cond.fieldLink RX1 15 "TokenDoors$Door" "depth" "I", Cond.fieldLink RX1 18 "TokenDoors$Door" "rate" "I", Cond.fieldLink RX1 21 "TokenDoors$Door" "holds" "I", Cond.methodLink RX2 54 yX0_make, Cond.instanceMethod yX0_make, Cond.selects RX0 yX0_make yX0_make, Cond.initialized RX0, Cond.code yX0_make cX0_make 4 none, Cond.fieldLink RX0 7 "TokenDoors$Crowd" "start" "I", Cond.fieldLink RX0 13 "TokenDoors$Crowd" "many" "I", Cond.fieldLink RX0 16 "TokenDoors$Crowd" "every" "I", Cond.methodLink RX7 299 yX2_countAnew, Cond.instanceMethod yX2_countAnew, Cond.selects RX2 yX2_countAnew yX2_countAnew, Cond.code yX2_countAnew cX2_countAnew 2 none, Cond.methodLink RX2 58 yX1_countAnew, Cond.instanceMethod yX1_countAnew, Cond.selects RX1 yX1_countAnew yX1_countAnew, Cond.code yX1_countAnew cX1_countAnew 1 none, Cond.fieldLink RX1 24 "TokenDoors$Door" "refused" "I"]
def wsX7_letAsItIs_r3 : List Cond := [Cond.fieldLink RX1 27 "TokenDoors$Door" "standsOpen" "Z", Cond.methodLink RX7 171 yX2_runOn, Cond.instanceMethod yX2_runOn, Cond.selects RX2 yX2_runOn yX2_runOn, Cond.code yX2_runOn cX2_runOn 4 (some .int), Cond.methodLink RX2 92 yX2_tickOn, Cond.instanceMethod yX2_tickOn, Cond.selects RX2 yX2_tickOn yX2_tickOn, Cond.code yX2_tickOn cX2_tickOn 1 (some .int), Cond.methodLink RX2 86 yX2_comers, Cond.instanceMethod yX2_comers, Cond.selects RX2 yX2_comers yX2_comers, Cond.code yX2_comers cX2_comers 3 (some .int), Cond.methodLink RX2 62 yX0_comesAt, Cond.instanceMethod yX0_comesAt, Cond.selects RX0 yX0_comesAt yX0_comesAt, Cond.code yX0_comesAt cX0_comesAt 2 (some .boolean), Cond.methodLink RX2 89 yX2_tickWith, Cond.instanceMethod yX2_tickWith, Cond.selects RX2 yX2_tickWith yX2_tickWith, Cond.code yX2_tickWith cX2_tickWith 4 (some .int), Cond.methodLink RX2 81 yX2_admit, Cond.instanceMethod yX2_admit, Cond.selects RX2 yX2_admit yX2_admit]
def wsX7_letAsItIs_r4 : List Cond := [Cond.code yX2_admit cX2_admit 4 (some .int), Cond.constant RX2 74 (99999), Cond.methodLink RX2 75 Lib.Math.min.name, Cond.static Lib.Math.min.name, Cond.initialized "java/lang/Math", Cond.code Lib.Math.min.name Lib.Math.min.code 2 (some .int), Cond.methodLink RX2 70 yX1_admit, Cond.instanceMethod yX1_admit, Cond.selects RX1 yX1_admit yX1_admit, Cond.code yX1_admit cX1_admit 3 (some .int), Cond.methodLink RX1 31 Lib.Math.min.name, Cond.methodLink RX1 37 yX1_room, Cond.instanceMethod yX1_room, Cond.selects RX1 yX1_room yX1_room, Cond.code yX1_room cX1_room 1 (some .int), Cond.methodLink RX2 82 yX1_settle, Cond.instanceMethod yX1_settle, Cond.selects RX1 yX1_settle yX1_settle, Cond.code yX1_settle cX1_settle 2 none, Cond.methodLink RX1 41 Lib.Math.max.name, Cond.static Lib.Math.max.name, Cond.code Lib.Math.max.name Lib.Math.max.code 2 (some .int)]
def wsX7_letAsItIs : List Cond := .code yX7_letAsItIs cX7_letAsItIs 2 (some .int) :: ((wsX7_letAsItIs_r1 ++ (wsX7_letAsItIs_r2 ++ (wsX7_letAsItIs_r3 ++ wsX7_letAsItIs_r4))) ++ wsX70 ++ wsX20 ++ wsX00 ++ wsX10)
def wsX7_swap_r1 : List Cond := [Cond.fieldLink RX7 10 "TokenDoors" "now" "LTokenDoors$Hall;", Cond.fieldLink RX7 91 "TokenDoors$Hall" "doorCount" "I", Cond.fieldLink RX7 16 "TokenDoors" "trial" "LTokenDoors$Hall;", Cond.methodLink RX7 168 yX7_isRun, Cond.static yX7_isRun, Cond.initialized RX7, Cond.code yX7_isRun cX7_isRun 1 (some .boolean), Cond.methodLink RX7 199 yX7_isChoice, Cond.static yX7_isChoice, Cond.code yX7_isChoice cX7_isChoice 1 (some .boolean), Cond.methodLink RX7 202 yX7_letAsItIs, Cond.instanceMethod yX7_letAsItIs, Cond.selects RX7 yX7_letAsItIs yX7_letAsItIs, Cond.code yX7_letAsItIs cX7_letAsItIs 2 (some .int), Cond.methodLink RX7 174 yX7_startTrial, Cond.instanceMethod yX7_startTrial, Cond.selects RX7 yX7_startTrial yX7_startTrial, Cond.code yX7_startTrial cX7_startTrial 1 none, Cond.methodLink RX7 84 yX2_become, Cond.instanceMethod yX2_become, Cond.selects RX2 yX2_become yX2_become, Cond.initialized RX2, Cond.code yX2_become cX2_become 4 none, Cond.fieldLink RX2 25 "TokenDoors$Hall" "doorCount" "I"]
def wsX7_swap_r2 : List Cond := [Cond.fieldLink RX2 11 "TokenDoors$Hall" "doors" "[LTokenDoors$Door;", Cond.fieldLink RX2 29 "TokenDoors$Hall" "crowdCount" "I", Cond.fieldLink RX2 19 "TokenDoors$Hall" "crowds" "[LTokenDoors$Crowd;", Cond.fieldLink RX2 45 "TokenDoors$Crowd" "start" "I", Cond.fieldLink RX2 48 "TokenDoors$Crowd" "many" "I", Cond.fieldLink RX2 51 "TokenDoors$Crowd" "every" "I", Cond.fieldLink RX2 32 "TokenDoors$Hall" "tick" "I", Cond.fieldLink RX2 35 "TokenDoors$Hall" "let" "I", Cond.fieldLink RX2 38 "TokenDoors$Hall" "turned" "I", Cond.methodLink RX2 41 yX1_become, Cond.instanceMethod yX1_become, Cond.selects RX1 yX1_become yX1_become, Cond.initialized RX1, Cond.code yX1_become cX1_become 2 none, Cond.fieldLink RX1 9 "TokenDoors$Door" "kind" "I", Cond.fieldLink RX1 15 "TokenDoors$Door" "depth" "I", Cond.fieldLink RX1 18 "TokenDoors$Door" "rate" "I", Cond.fieldLink RX1 21 "TokenDoors$Door" "holds" "I", Cond.methodLink RX2 54 yX0_make, Cond.instanceMethod yX0_make, Cond.selects RX0 yX0_make yX0_make, Cond.initialized RX0, Cond.code yX0_make cX0_make 4 none, Cond.fieldLink RX0 7 "TokenDoors$Crowd" "start" "I"]
def wsX7_swap_r3 : List Cond := [Cond.fieldLink RX0 13 "TokenDoors$Crowd" "many" "I", Cond.fieldLink RX0 16 "TokenDoors$Crowd" "every" "I", Cond.methodLink RX7 299 yX2_countAnew, Cond.instanceMethod yX2_countAnew, Cond.selects RX2 yX2_countAnew yX2_countAnew, Cond.code yX2_countAnew cX2_countAnew 2 none, Cond.methodLink RX2 58 yX1_countAnew, Cond.instanceMethod yX1_countAnew, Cond.selects RX1 yX1_countAnew yX1_countAnew, Cond.code yX1_countAnew cX1_countAnew 1 none, Cond.fieldLink RX1 24 "TokenDoors$Door" "refused" "I", Cond.fieldLink RX1 27 "TokenDoors$Door" "standsOpen" "Z", Cond.methodLink RX7 171 yX2_runOn, Cond.instanceMethod yX2_runOn, Cond.selects RX2 yX2_runOn yX2_runOn, Cond.code yX2_runOn cX2_runOn 4 (some .int), Cond.methodLink RX2 92 yX2_tickOn, Cond.instanceMethod yX2_tickOn, Cond.selects RX2 yX2_tickOn yX2_tickOn, Cond.code yX2_tickOn cX2_tickOn 1 (some .int), Cond.methodLink RX2 86 yX2_comers, Cond.instanceMethod yX2_comers, Cond.selects RX2 yX2_comers yX2_comers, Cond.code yX2_comers cX2_comers 3 (some .int)]
def wsX7_swap_r4 : List Cond := [Cond.methodLink RX2 62 yX0_comesAt, Cond.instanceMethod yX0_comesAt, Cond.selects RX0 yX0_comesAt yX0_comesAt, Cond.code yX0_comesAt cX0_comesAt 2 (some .boolean), Cond.methodLink RX2 89 yX2_tickWith, Cond.instanceMethod yX2_tickWith, Cond.selects RX2 yX2_tickWith yX2_tickWith, Cond.code yX2_tickWith cX2_tickWith 4 (some .int), Cond.methodLink RX2 81 yX2_admit, Cond.instanceMethod yX2_admit, Cond.selects RX2 yX2_admit yX2_admit, Cond.code yX2_admit cX2_admit 4 (some .int), Cond.constant RX2 74 (99999), Cond.methodLink RX2 75 Lib.Math.min.name, Cond.static Lib.Math.min.name, Cond.initialized "java/lang/Math", Cond.code Lib.Math.min.name Lib.Math.min.code 2 (some .int), Cond.methodLink RX2 70 yX1_admit, Cond.instanceMethod yX1_admit, Cond.selects RX1 yX1_admit yX1_admit, Cond.code yX1_admit cX1_admit 3 (some .int), Cond.methodLink RX1 31 Lib.Math.min.name, Cond.methodLink RX1 37 yX1_room, Cond.instanceMethod yX1_room]
def wsX7_swap_r5 : List Cond := [Cond.selects RX1 yX1_room yX1_room, Cond.code yX1_room cX1_room 1 (some .int), Cond.methodLink RX2 82 yX1_settle, Cond.instanceMethod yX1_settle, Cond.selects RX1 yX1_settle yX1_settle, Cond.code yX1_settle cX1_settle 2 none, Cond.methodLink RX1 41 Lib.Math.max.name, Cond.static Lib.Math.max.name, Cond.code Lib.Math.max.name Lib.Math.max.code 2 (some .int), Cond.methodLink RX7 205 yX2_exchange, Cond.instanceMethod yX2_exchange, Cond.selects RX2 yX2_exchange yX2_exchange, Cond.code yX2_exchange cX2_exchange 4 none]
def wsX7_swap : List Cond := .code yX7_swap cX7_swap 8 (some .int) :: ((wsX7_swap_r1 ++ (wsX7_swap_r2 ++ (wsX7_swap_r3 ++ (wsX7_swap_r4 ++ wsX7_swap_r5)))) ++ wsX70 ++ wsX20 ++ wsX00 ++ wsX10)
def wsX7_open_r1 : List Cond := [Cond.fieldLink RX7 10 "TokenDoors" "now" "LTokenDoors$Hall;", Cond.fieldLink RX7 91 "TokenDoors$Hall" "doorCount" "I", Cond.fieldLink RX7 16 "TokenDoors" "trial" "LTokenDoors$Hall;", Cond.fieldLink RX7 115 "TokenDoors$Hall" "doors" "[LTokenDoors$Door;", Cond.fieldLink RX7 208 "TokenDoors$Door" "standsOpen" "Z", Cond.methodLink RX7 168 yX7_isRun, Cond.static yX7_isRun, Cond.initialized RX7, Cond.code yX7_isRun cX7_isRun 1 (some .boolean), Cond.methodLink RX7 199 yX7_isChoice, Cond.static yX7_isChoice, Cond.code yX7_isChoice cX7_isChoice 1 (some .boolean), Cond.methodLink RX7 202 yX7_letAsItIs, Cond.instanceMethod yX7_letAsItIs, Cond.selects RX7 yX7_letAsItIs yX7_letAsItIs, Cond.code yX7_letAsItIs cX7_letAsItIs 2 (some .int), Cond.methodLink RX7 174 yX7_startTrial, Cond.instanceMethod yX7_startTrial, Cond.selects RX7 yX7_startTrial yX7_startTrial, Cond.code yX7_startTrial cX7_startTrial 1 none, Cond.methodLink RX7 84 yX2_become, Cond.instanceMethod yX2_become, Cond.selects RX2 yX2_become yX2_become, Cond.initialized RX2]
def wsX7_open_r2 : List Cond := [Cond.code yX2_become cX2_become 4 none, Cond.fieldLink RX2 25 "TokenDoors$Hall" "doorCount" "I", Cond.fieldLink RX2 11 "TokenDoors$Hall" "doors" "[LTokenDoors$Door;", Cond.fieldLink RX2 29 "TokenDoors$Hall" "crowdCount" "I", Cond.fieldLink RX2 19 "TokenDoors$Hall" "crowds" "[LTokenDoors$Crowd;", Cond.fieldLink RX2 45 "TokenDoors$Crowd" "start" "I", Cond.fieldLink RX2 48 "TokenDoors$Crowd" "many" "I", Cond.fieldLink RX2 51 "TokenDoors$Crowd" "every" "I", Cond.fieldLink RX2 32 "TokenDoors$Hall" "tick" "I", Cond.fieldLink RX2 35 "TokenDoors$Hall" "let" "I", Cond.fieldLink RX2 38 "TokenDoors$Hall" "turned" "I", Cond.methodLink RX2 41 yX1_become, Cond.instanceMethod yX1_become, Cond.selects RX1 yX1_become yX1_become, Cond.initialized RX1, Cond.code yX1_become cX1_become 2 none, Cond.fieldLink RX1 9 "TokenDoors$Door" "kind" "I", Cond.fieldLink RX1 15 "TokenDoors$Door" "depth" "I", Cond.fieldLink RX1 18 "TokenDoors$Door" "rate" "I", Cond.fieldLink RX1 21 "TokenDoors$Door" "holds" "I", Cond.methodLink RX2 54 yX0_make, Cond.instanceMethod yX0_make, Cond.selects RX0 yX0_make yX0_make, Cond.initialized RX0]
def wsX7_open_r3 : List Cond := [Cond.code yX0_make cX0_make 4 none, Cond.fieldLink RX0 7 "TokenDoors$Crowd" "start" "I", Cond.fieldLink RX0 13 "TokenDoors$Crowd" "many" "I", Cond.fieldLink RX0 16 "TokenDoors$Crowd" "every" "I", Cond.methodLink RX7 299 yX2_countAnew, Cond.instanceMethod yX2_countAnew, Cond.selects RX2 yX2_countAnew yX2_countAnew, Cond.code yX2_countAnew cX2_countAnew 2 none, Cond.methodLink RX2 58 yX1_countAnew, Cond.instanceMethod yX1_countAnew, Cond.selects RX1 yX1_countAnew yX1_countAnew, Cond.code yX1_countAnew cX1_countAnew 1 none, Cond.fieldLink RX1 24 "TokenDoors$Door" "refused" "I", Cond.fieldLink RX1 27 "TokenDoors$Door" "standsOpen" "Z", Cond.methodLink RX7 171 yX2_runOn, Cond.instanceMethod yX2_runOn, Cond.selects RX2 yX2_runOn yX2_runOn, Cond.code yX2_runOn cX2_runOn 4 (some .int), Cond.methodLink RX2 92 yX2_tickOn, Cond.instanceMethod yX2_tickOn, Cond.selects RX2 yX2_tickOn yX2_tickOn, Cond.code yX2_tickOn cX2_tickOn 1 (some .int), Cond.methodLink RX2 86 yX2_comers, Cond.instanceMethod yX2_comers]
def wsX7_open_r4 : List Cond := [Cond.selects RX2 yX2_comers yX2_comers, Cond.code yX2_comers cX2_comers 3 (some .int), Cond.methodLink RX2 62 yX0_comesAt, Cond.instanceMethod yX0_comesAt, Cond.selects RX0 yX0_comesAt yX0_comesAt, Cond.code yX0_comesAt cX0_comesAt 2 (some .boolean), Cond.methodLink RX2 89 yX2_tickWith, Cond.instanceMethod yX2_tickWith, Cond.selects RX2 yX2_tickWith yX2_tickWith, Cond.code yX2_tickWith cX2_tickWith 4 (some .int), Cond.methodLink RX2 81 yX2_admit, Cond.instanceMethod yX2_admit, Cond.selects RX2 yX2_admit yX2_admit, Cond.code yX2_admit cX2_admit 4 (some .int), Cond.constant RX2 74 (99999), Cond.methodLink RX2 75 Lib.Math.min.name, Cond.static Lib.Math.min.name, Cond.initialized "java/lang/Math", Cond.code Lib.Math.min.name Lib.Math.min.code 2 (some .int), Cond.methodLink RX2 70 yX1_admit, Cond.instanceMethod yX1_admit, Cond.selects RX1 yX1_admit yX1_admit, Cond.code yX1_admit cX1_admit 3 (some .int), Cond.methodLink RX1 31 Lib.Math.min.name]
def wsX7_open_r5 : List Cond := [Cond.methodLink RX1 37 yX1_room, Cond.instanceMethod yX1_room, Cond.selects RX1 yX1_room yX1_room, Cond.code yX1_room cX1_room 1 (some .int), Cond.methodLink RX2 82 yX1_settle, Cond.instanceMethod yX1_settle, Cond.selects RX1 yX1_settle yX1_settle, Cond.code yX1_settle cX1_settle 2 none, Cond.methodLink RX1 41 Lib.Math.max.name, Cond.static Lib.Math.max.name, Cond.code Lib.Math.max.name Lib.Math.max.code 2 (some .int)]
def wsX7_open : List Cond := .code yX7_open cX7_open 7 (some .int) :: ((wsX7_open_r1 ++ (wsX7_open_r2 ++ (wsX7_open_r3 ++ (wsX7_open_r4 ++ wsX7_open_r5)))) ++ wsX70 ++ wsX20 ++ wsX10 ++ wsX00)
def wsX7_bestChange_r1 : List Cond := [Cond.fieldLink RX7 16 "TokenDoors" "trial" "LTokenDoors$Hall;", Cond.fieldLink RX7 115 "TokenDoors$Hall" "doors" "[LTokenDoors$Door;", Cond.methodLink RX7 174 yX7_startTrial, Cond.instanceMethod yX7_startTrial, Cond.selects RX7 yX7_startTrial yX7_startTrial, Cond.initialized RX7, Cond.code yX7_startTrial cX7_startTrial 1 none, Cond.fieldLink RX7 10 "TokenDoors" "now" "LTokenDoors$Hall;", Cond.methodLink RX7 84 yX2_become, Cond.instanceMethod yX2_become, Cond.selects RX2 yX2_become yX2_become, Cond.initialized RX2, Cond.code yX2_become cX2_become 4 none, Cond.fieldLink RX2 25 "TokenDoors$Hall" "doorCount" "I", Cond.fieldLink RX2 11 "TokenDoors$Hall" "doors" "[LTokenDoors$Door;", Cond.fieldLink RX2 29 "TokenDoors$Hall" "crowdCount" "I", Cond.fieldLink RX2 19 "TokenDoors$Hall" "crowds" "[LTokenDoors$Crowd;", Cond.fieldLink RX2 45 "TokenDoors$Crowd" "start" "I", Cond.fieldLink RX2 48 "TokenDoors$Crowd" "many" "I", Cond.fieldLink RX2 51 "TokenDoors$Crowd" "every" "I", Cond.fieldLink RX2 32 "TokenDoors$Hall" "tick" "I", Cond.fieldLink RX2 35 "TokenDoors$Hall" "let" "I", Cond.fieldLink RX2 38 "TokenDoors$Hall" "turned" "I", Cond.methodLink RX2 41 yX1_become]
def wsX7_bestChange_r2 : List Cond := [Cond.instanceMethod yX1_become, Cond.selects RX1 yX1_become yX1_become, Cond.initialized RX1, Cond.code yX1_become cX1_become 2 none, Cond.fieldLink RX1 9 "TokenDoors$Door" "kind" "I", Cond.fieldLink RX1 15 "TokenDoors$Door" "depth" "I", Cond.fieldLink RX1 18 "TokenDoors$Door" "rate" "I", Cond.fieldLink RX1 21 "TokenDoors$Door" "holds" "I", Cond.methodLink RX2 54 yX0_make, Cond.instanceMethod yX0_make, Cond.selects RX0 yX0_make yX0_make, Cond.initialized RX0, Cond.code yX0_make cX0_make 4 none, Cond.fieldLink RX0 7 "TokenDoors$Crowd" "start" "I", Cond.fieldLink RX0 13 "TokenDoors$Crowd" "many" "I", Cond.fieldLink RX0 16 "TokenDoors$Crowd" "every" "I", Cond.methodLink RX7 299 yX2_countAnew, Cond.instanceMethod yX2_countAnew, Cond.selects RX2 yX2_countAnew yX2_countAnew, Cond.code yX2_countAnew cX2_countAnew 2 none, Cond.methodLink RX2 58 yX1_countAnew, Cond.instanceMethod yX1_countAnew, Cond.selects RX1 yX1_countAnew yX1_countAnew, Cond.code yX1_countAnew cX1_countAnew 1 none]
def wsX7_bestChange_r3 : List Cond := [Cond.fieldLink RX1 24 "TokenDoors$Door" "refused" "I", Cond.fieldLink RX1 27 "TokenDoors$Door" "standsOpen" "Z", Cond.methodLink RX7 148 yX1_change, Cond.instanceMethod yX1_change, Cond.selects RX1 yX1_change yX1_change, Cond.code yX1_change cX1_change 3 none, Cond.methodLink RX1 31 Lib.Math.min.name, Cond.static Lib.Math.min.name, Cond.initialized "java/lang/Math", Cond.code Lib.Math.min.name Lib.Math.min.code 2 (some .int), Cond.methodLink RX7 171 yX2_runOn, Cond.instanceMethod yX2_runOn, Cond.selects RX2 yX2_runOn yX2_runOn, Cond.code yX2_runOn cX2_runOn 4 (some .int), Cond.methodLink RX2 92 yX2_tickOn, Cond.instanceMethod yX2_tickOn, Cond.selects RX2 yX2_tickOn yX2_tickOn, Cond.code yX2_tickOn cX2_tickOn 1 (some .int), Cond.methodLink RX2 86 yX2_comers, Cond.instanceMethod yX2_comers, Cond.selects RX2 yX2_comers yX2_comers, Cond.code yX2_comers cX2_comers 3 (some .int), Cond.methodLink RX2 62 yX0_comesAt, Cond.instanceMethod yX0_comesAt]
def wsX7_bestChange_r4 : List Cond := [Cond.selects RX0 yX0_comesAt yX0_comesAt, Cond.code yX0_comesAt cX0_comesAt 2 (some .boolean), Cond.methodLink RX2 89 yX2_tickWith, Cond.instanceMethod yX2_tickWith, Cond.selects RX2 yX2_tickWith yX2_tickWith, Cond.code yX2_tickWith cX2_tickWith 4 (some .int), Cond.methodLink RX2 81 yX2_admit, Cond.instanceMethod yX2_admit, Cond.selects RX2 yX2_admit yX2_admit, Cond.code yX2_admit cX2_admit 4 (some .int), Cond.constant RX2 74 (99999), Cond.methodLink RX2 75 Lib.Math.min.name, Cond.methodLink RX2 70 yX1_admit, Cond.instanceMethod yX1_admit, Cond.selects RX1 yX1_admit yX1_admit, Cond.code yX1_admit cX1_admit 3 (some .int), Cond.methodLink RX1 37 yX1_room, Cond.instanceMethod yX1_room, Cond.selects RX1 yX1_room yX1_room, Cond.code yX1_room cX1_room 1 (some .int), Cond.methodLink RX2 82 yX1_settle, Cond.instanceMethod yX1_settle, Cond.selects RX1 yX1_settle yX1_settle, Cond.code yX1_settle cX1_settle 2 none]
def wsX7_bestChange_r5 : List Cond := [Cond.methodLink RX1 41 Lib.Math.max.name, Cond.static Lib.Math.max.name, Cond.code Lib.Math.max.name Lib.Math.max.code 2 (some .int)]
def wsX7_bestChange : List Cond := .code yX7_bestChange cX7_bestChange 10 (some .int) :: ((wsX7_bestChange_r1 ++ (wsX7_bestChange_r2 ++ (wsX7_bestChange_r3 ++ (wsX7_bestChange_r4 ++ wsX7_bestChange_r5)))) ++ wsX70 ++ wsX20 ++ wsX00 ++ wsX10)
def wsX7_kind_r1 : List Cond := [Cond.methodLink RX7 112 yX7_isDoor, Cond.instanceMethod yX7_isDoor, Cond.selects RX7 yX7_isDoor yX7_isDoor, Cond.initialized RX7, Cond.code yX7_isDoor cX7_isDoor 2 (some .boolean), Cond.fieldLink RX7 10 "TokenDoors" "now" "LTokenDoors$Hall;", Cond.fieldLink RX7 91 "TokenDoors$Hall" "doorCount" "I", Cond.methodLink RX7 168 yX7_isRun, Cond.static yX7_isRun, Cond.code yX7_isRun cX7_isRun 1 (some .boolean), Cond.methodLink RX7 199 yX7_isChoice, Cond.static yX7_isChoice, Cond.code yX7_isChoice cX7_isChoice 1 (some .boolean), Cond.methodLink RX7 212 yX7_bestChange, Cond.instanceMethod yX7_bestChange, Cond.selects RX7 yX7_bestChange yX7_bestChange, Cond.code yX7_bestChange cX7_bestChange 10 (some .int), Cond.fieldLink RX7 16 "TokenDoors" "trial" "LTokenDoors$Hall;", Cond.fieldLink RX7 115 "TokenDoors$Hall" "doors" "[LTokenDoors$Door;", Cond.methodLink RX7 174 yX7_startTrial, Cond.instanceMethod yX7_startTrial, Cond.selects RX7 yX7_startTrial yX7_startTrial, Cond.code yX7_startTrial cX7_startTrial 1 none, Cond.methodLink RX7 84 yX2_become]
def wsX7_kind_r2 : List Cond := [Cond.instanceMethod yX2_become, Cond.selects RX2 yX2_become yX2_become, Cond.initialized RX2, Cond.code yX2_become cX2_become 4 none, Cond.fieldLink RX2 25 "TokenDoors$Hall" "doorCount" "I", Cond.fieldLink RX2 11 "TokenDoors$Hall" "doors" "[LTokenDoors$Door;", Cond.fieldLink RX2 29 "TokenDoors$Hall" "crowdCount" "I", Cond.fieldLink RX2 19 "TokenDoors$Hall" "crowds" "[LTokenDoors$Crowd;", Cond.fieldLink RX2 45 "TokenDoors$Crowd" "start" "I", Cond.fieldLink RX2 48 "TokenDoors$Crowd" "many" "I", Cond.fieldLink RX2 51 "TokenDoors$Crowd" "every" "I", Cond.fieldLink RX2 32 "TokenDoors$Hall" "tick" "I", Cond.fieldLink RX2 35 "TokenDoors$Hall" "let" "I", Cond.fieldLink RX2 38 "TokenDoors$Hall" "turned" "I", Cond.methodLink RX2 41 yX1_become, Cond.instanceMethod yX1_become, Cond.selects RX1 yX1_become yX1_become, Cond.initialized RX1, Cond.code yX1_become cX1_become 2 none, Cond.fieldLink RX1 9 "TokenDoors$Door" "kind" "I", Cond.fieldLink RX1 15 "TokenDoors$Door" "depth" "I", Cond.fieldLink RX1 18 "TokenDoors$Door" "rate" "I", Cond.fieldLink RX1 21 "TokenDoors$Door" "holds" "I", Cond.methodLink RX2 54 yX0_make]
def wsX7_kind_r3 : List Cond := [Cond.instanceMethod yX0_make, Cond.selects RX0 yX0_make yX0_make, Cond.initialized RX0, Cond.code yX0_make cX0_make 4 none, Cond.fieldLink RX0 7 "TokenDoors$Crowd" "start" "I", Cond.fieldLink RX0 13 "TokenDoors$Crowd" "many" "I", Cond.fieldLink RX0 16 "TokenDoors$Crowd" "every" "I", Cond.methodLink RX7 299 yX2_countAnew, Cond.instanceMethod yX2_countAnew, Cond.selects RX2 yX2_countAnew yX2_countAnew, Cond.code yX2_countAnew cX2_countAnew 2 none, Cond.methodLink RX2 58 yX1_countAnew, Cond.instanceMethod yX1_countAnew, Cond.selects RX1 yX1_countAnew yX1_countAnew, Cond.code yX1_countAnew cX1_countAnew 1 none, Cond.fieldLink RX1 24 "TokenDoors$Door" "refused" "I", Cond.fieldLink RX1 27 "TokenDoors$Door" "standsOpen" "Z", Cond.methodLink RX7 148 yX1_change, Cond.instanceMethod yX1_change, Cond.selects RX1 yX1_change yX1_change, Cond.code yX1_change cX1_change 3 none, Cond.methodLink RX1 31 Lib.Math.min.name, Cond.static Lib.Math.min.name, Cond.initialized "java/lang/Math"]
def wsX7_kind_r4 : List Cond := [Cond.code Lib.Math.min.name Lib.Math.min.code 2 (some .int), Cond.methodLink RX7 171 yX2_runOn, Cond.instanceMethod yX2_runOn, Cond.selects RX2 yX2_runOn yX2_runOn, Cond.code yX2_runOn cX2_runOn 4 (some .int), Cond.methodLink RX2 92 yX2_tickOn, Cond.instanceMethod yX2_tickOn, Cond.selects RX2 yX2_tickOn yX2_tickOn, Cond.code yX2_tickOn cX2_tickOn 1 (some .int), Cond.methodLink RX2 86 yX2_comers, Cond.instanceMethod yX2_comers, Cond.selects RX2 yX2_comers yX2_comers, Cond.code yX2_comers cX2_comers 3 (some .int), Cond.methodLink RX2 62 yX0_comesAt, Cond.instanceMethod yX0_comesAt, Cond.selects RX0 yX0_comesAt yX0_comesAt, Cond.code yX0_comesAt cX0_comesAt 2 (some .boolean), Cond.methodLink RX2 89 yX2_tickWith, Cond.instanceMethod yX2_tickWith, Cond.selects RX2 yX2_tickWith yX2_tickWith, Cond.code yX2_tickWith cX2_tickWith 4 (some .int), Cond.methodLink RX2 81 yX2_admit, Cond.instanceMethod yX2_admit, Cond.selects RX2 yX2_admit yX2_admit]
def wsX7_kind_r5 : List Cond := [Cond.code yX2_admit cX2_admit 4 (some .int), Cond.constant RX2 74 (99999), Cond.methodLink RX2 75 Lib.Math.min.name, Cond.methodLink RX2 70 yX1_admit, Cond.instanceMethod yX1_admit, Cond.selects RX1 yX1_admit yX1_admit, Cond.code yX1_admit cX1_admit 3 (some .int), Cond.methodLink RX1 37 yX1_room, Cond.instanceMethod yX1_room, Cond.selects RX1 yX1_room yX1_room, Cond.code yX1_room cX1_room 1 (some .int), Cond.methodLink RX2 82 yX1_settle, Cond.instanceMethod yX1_settle, Cond.selects RX1 yX1_settle yX1_settle, Cond.code yX1_settle cX1_settle 2 none, Cond.methodLink RX1 41 Lib.Math.max.name, Cond.static Lib.Math.max.name, Cond.code Lib.Math.max.name Lib.Math.max.code 2 (some .int)]
def wsX7_kind : List Cond := .code yX7_kind cX7_kind 4 (some .int) :: ((wsX7_kind_r1 ++ (wsX7_kind_r2 ++ (wsX7_kind_r3 ++ (wsX7_kind_r4 ++ wsX7_kind_r5)))) ++ wsX70 ++ wsX20 ++ wsX00 ++ wsX10)
def wsX7_fill_r1 : List Cond := [Cond.fieldLink RX7 10 "TokenDoors" "now" "LTokenDoors$Hall;", Cond.fieldLink RX7 115 "TokenDoors$Hall" "doors" "[LTokenDoors$Door;", Cond.fieldLink RX7 145 "TokenDoors$Door" "depth" "I", Cond.methodLink RX7 112 yX7_isDoor, Cond.instanceMethod yX7_isDoor, Cond.selects RX7 yX7_isDoor yX7_isDoor, Cond.initialized RX7, Cond.code yX7_isDoor cX7_isDoor 2 (some .boolean), Cond.fieldLink RX7 91 "TokenDoors$Hall" "doorCount" "I", Cond.methodLink RX7 168 yX7_isRun, Cond.static yX7_isRun, Cond.code yX7_isRun cX7_isRun 1 (some .boolean), Cond.methodLink RX7 199 yX7_isChoice, Cond.static yX7_isChoice, Cond.code yX7_isChoice cX7_isChoice 1 (some .boolean), Cond.methodLink RX7 212 yX7_bestChange, Cond.instanceMethod yX7_bestChange, Cond.selects RX7 yX7_bestChange yX7_bestChange, Cond.code yX7_bestChange cX7_bestChange 10 (some .int), Cond.fieldLink RX7 16 "TokenDoors" "trial" "LTokenDoors$Hall;", Cond.methodLink RX7 174 yX7_startTrial, Cond.instanceMethod yX7_startTrial, Cond.selects RX7 yX7_startTrial yX7_startTrial, Cond.code yX7_startTrial cX7_startTrial 1 none]
def wsX7_fill_r2 : List Cond := [Cond.methodLink RX7 84 yX2_become, Cond.instanceMethod yX2_become, Cond.selects RX2 yX2_become yX2_become, Cond.initialized RX2, Cond.code yX2_become cX2_become 4 none, Cond.fieldLink RX2 25 "TokenDoors$Hall" "doorCount" "I", Cond.fieldLink RX2 11 "TokenDoors$Hall" "doors" "[LTokenDoors$Door;", Cond.fieldLink RX2 29 "TokenDoors$Hall" "crowdCount" "I", Cond.fieldLink RX2 19 "TokenDoors$Hall" "crowds" "[LTokenDoors$Crowd;", Cond.fieldLink RX2 45 "TokenDoors$Crowd" "start" "I", Cond.fieldLink RX2 48 "TokenDoors$Crowd" "many" "I", Cond.fieldLink RX2 51 "TokenDoors$Crowd" "every" "I", Cond.fieldLink RX2 32 "TokenDoors$Hall" "tick" "I", Cond.fieldLink RX2 35 "TokenDoors$Hall" "let" "I", Cond.fieldLink RX2 38 "TokenDoors$Hall" "turned" "I", Cond.methodLink RX2 41 yX1_become, Cond.instanceMethod yX1_become, Cond.selects RX1 yX1_become yX1_become, Cond.initialized RX1, Cond.code yX1_become cX1_become 2 none, Cond.fieldLink RX1 9 "TokenDoors$Door" "kind" "I", Cond.fieldLink RX1 15 "TokenDoors$Door" "depth" "I", Cond.fieldLink RX1 18 "TokenDoors$Door" "rate" "I", Cond.fieldLink RX1 21 "TokenDoors$Door" "holds" "I"]
def wsX7_fill_r3 : List Cond := [Cond.methodLink RX2 54 yX0_make, Cond.instanceMethod yX0_make, Cond.selects RX0 yX0_make yX0_make, Cond.initialized RX0, Cond.code yX0_make cX0_make 4 none, Cond.fieldLink RX0 7 "TokenDoors$Crowd" "start" "I", Cond.fieldLink RX0 13 "TokenDoors$Crowd" "many" "I", Cond.fieldLink RX0 16 "TokenDoors$Crowd" "every" "I", Cond.methodLink RX7 299 yX2_countAnew, Cond.instanceMethod yX2_countAnew, Cond.selects RX2 yX2_countAnew yX2_countAnew, Cond.code yX2_countAnew cX2_countAnew 2 none, Cond.methodLink RX2 58 yX1_countAnew, Cond.instanceMethod yX1_countAnew, Cond.selects RX1 yX1_countAnew yX1_countAnew, Cond.code yX1_countAnew cX1_countAnew 1 none, Cond.fieldLink RX1 24 "TokenDoors$Door" "refused" "I", Cond.fieldLink RX1 27 "TokenDoors$Door" "standsOpen" "Z", Cond.methodLink RX7 148 yX1_change, Cond.instanceMethod yX1_change, Cond.selects RX1 yX1_change yX1_change, Cond.code yX1_change cX1_change 3 none, Cond.methodLink RX1 31 Lib.Math.min.name, Cond.static Lib.Math.min.name]
def wsX7_fill_r4 : List Cond := [Cond.initialized "java/lang/Math", Cond.code Lib.Math.min.name Lib.Math.min.code 2 (some .int), Cond.methodLink RX7 171 yX2_runOn, Cond.instanceMethod yX2_runOn, Cond.selects RX2 yX2_runOn yX2_runOn, Cond.code yX2_runOn cX2_runOn 4 (some .int), Cond.methodLink RX2 92 yX2_tickOn, Cond.instanceMethod yX2_tickOn, Cond.selects RX2 yX2_tickOn yX2_tickOn, Cond.code yX2_tickOn cX2_tickOn 1 (some .int), Cond.methodLink RX2 86 yX2_comers, Cond.instanceMethod yX2_comers, Cond.selects RX2 yX2_comers yX2_comers, Cond.code yX2_comers cX2_comers 3 (some .int), Cond.methodLink RX2 62 yX0_comesAt, Cond.instanceMethod yX0_comesAt, Cond.selects RX0 yX0_comesAt yX0_comesAt, Cond.code yX0_comesAt cX0_comesAt 2 (some .boolean), Cond.methodLink RX2 89 yX2_tickWith, Cond.instanceMethod yX2_tickWith, Cond.selects RX2 yX2_tickWith yX2_tickWith, Cond.code yX2_tickWith cX2_tickWith 4 (some .int), Cond.methodLink RX2 81 yX2_admit, Cond.instanceMethod yX2_admit]
def wsX7_fill_r5 : List Cond := [Cond.selects RX2 yX2_admit yX2_admit, Cond.code yX2_admit cX2_admit 4 (some .int), Cond.constant RX2 74 (99999), Cond.methodLink RX2 75 Lib.Math.min.name, Cond.methodLink RX2 70 yX1_admit, Cond.instanceMethod yX1_admit, Cond.selects RX1 yX1_admit yX1_admit, Cond.code yX1_admit cX1_admit 3 (some .int), Cond.methodLink RX1 37 yX1_room, Cond.instanceMethod yX1_room, Cond.selects RX1 yX1_room yX1_room, Cond.code yX1_room cX1_room 1 (some .int), Cond.methodLink RX2 82 yX1_settle, Cond.instanceMethod yX1_settle, Cond.selects RX1 yX1_settle yX1_settle, Cond.code yX1_settle cX1_settle 2 none, Cond.methodLink RX1 41 Lib.Math.max.name, Cond.static Lib.Math.max.name, Cond.code Lib.Math.max.name Lib.Math.max.code 2 (some .int)]
def wsX7_fill : List Cond := .code yX7_fill cX7_fill 4 (some .int) :: ((wsX7_fill_r1 ++ (wsX7_fill_r2 ++ (wsX7_fill_r3 ++ (wsX7_fill_r4 ++ wsX7_fill_r5)))) ++ wsX70 ++ wsX20 ++ wsX10 ++ wsX00)
def wsX7_isOdds : List Cond := .code yX7_isOdds cX7_isOdds 2 (some .boolean) :: ([])
def wsJ6_bitCount_0f7a4 : List Cond := .code yJ6_bitCount_0f7a4 cJ6_bitCount_0f7a4 1 (some .int) :: ([.constant RJ6 265 (1431655765), .constant RJ6 266 (858993459), .constant RJ6 267 (252645135)])
def wsX7_power : List Cond := .code yX7_power cX7_power 5 (some .long) :: ([])
def wsX7_runQuiet_r1 : List Cond := [Cond.fieldLink RX7 16 "TokenDoors" "trial" "LTokenDoors$Hall;", Cond.methodLink RX7 174 yX7_startTrial, Cond.instanceMethod yX7_startTrial, Cond.selects RX7 yX7_startTrial yX7_startTrial, Cond.initialized RX7, Cond.code yX7_startTrial cX7_startTrial 1 none, Cond.fieldLink RX7 10 "TokenDoors" "now" "LTokenDoors$Hall;", Cond.methodLink RX7 84 yX2_become, Cond.instanceMethod yX2_become, Cond.selects RX2 yX2_become yX2_become, Cond.initialized RX2, Cond.code yX2_become cX2_become 4 none, Cond.fieldLink RX2 25 "TokenDoors$Hall" "doorCount" "I", Cond.fieldLink RX2 11 "TokenDoors$Hall" "doors" "[LTokenDoors$Door;", Cond.fieldLink RX2 29 "TokenDoors$Hall" "crowdCount" "I", Cond.fieldLink RX2 19 "TokenDoors$Hall" "crowds" "[LTokenDoors$Crowd;", Cond.fieldLink RX2 45 "TokenDoors$Crowd" "start" "I", Cond.fieldLink RX2 48 "TokenDoors$Crowd" "many" "I", Cond.fieldLink RX2 51 "TokenDoors$Crowd" "every" "I", Cond.fieldLink RX2 32 "TokenDoors$Hall" "tick" "I", Cond.fieldLink RX2 35 "TokenDoors$Hall" "let" "I", Cond.fieldLink RX2 38 "TokenDoors$Hall" "turned" "I", Cond.methodLink RX2 41 yX1_become, Cond.instanceMethod yX1_become]
def wsX7_runQuiet_r2 : List Cond := [Cond.selects RX1 yX1_become yX1_become, Cond.initialized RX1, Cond.code yX1_become cX1_become 2 none, Cond.fieldLink RX1 9 "TokenDoors$Door" "kind" "I", Cond.fieldLink RX1 15 "TokenDoors$Door" "depth" "I", Cond.fieldLink RX1 18 "TokenDoors$Door" "rate" "I", Cond.fieldLink RX1 21 "TokenDoors$Door" "holds" "I", Cond.methodLink RX2 54 yX0_make, Cond.instanceMethod yX0_make, Cond.selects RX0 yX0_make yX0_make, Cond.initialized RX0, Cond.code yX0_make cX0_make 4 none, Cond.fieldLink RX0 7 "TokenDoors$Crowd" "start" "I", Cond.fieldLink RX0 13 "TokenDoors$Crowd" "many" "I", Cond.fieldLink RX0 16 "TokenDoors$Crowd" "every" "I", Cond.methodLink RX7 299 yX2_countAnew, Cond.instanceMethod yX2_countAnew, Cond.selects RX2 yX2_countAnew yX2_countAnew, Cond.code yX2_countAnew cX2_countAnew 2 none, Cond.methodLink RX2 58 yX1_countAnew, Cond.instanceMethod yX1_countAnew, Cond.selects RX1 yX1_countAnew yX1_countAnew, Cond.code yX1_countAnew cX1_countAnew 1 none, Cond.fieldLink RX1 24 "TokenDoors$Door" "refused" "I"]
def wsX7_runQuiet_r3 : List Cond := [Cond.fieldLink RX1 27 "TokenDoors$Door" "standsOpen" "Z", Cond.methodLink RX7 106 yX2_comers, Cond.instanceMethod yX2_comers, Cond.selects RX2 yX2_comers yX2_comers, Cond.code yX2_comers cX2_comers 3 (some .int), Cond.methodLink RX2 62 yX0_comesAt, Cond.instanceMethod yX0_comesAt, Cond.selects RX0 yX0_comesAt yX0_comesAt, Cond.code yX0_comesAt cX0_comesAt 2 (some .boolean), Cond.methodLink RX7 252 yX2_tickWith, Cond.instanceMethod yX2_tickWith, Cond.selects RX2 yX2_tickWith yX2_tickWith, Cond.code yX2_tickWith cX2_tickWith 4 (some .int), Cond.methodLink RX2 81 yX2_admit, Cond.instanceMethod yX2_admit, Cond.selects RX2 yX2_admit yX2_admit, Cond.code yX2_admit cX2_admit 4 (some .int), Cond.constant RX2 74 (99999), Cond.methodLink RX2 75 Lib.Math.min.name, Cond.static Lib.Math.min.name, Cond.initialized "java/lang/Math", Cond.code Lib.Math.min.name Lib.Math.min.code 2 (some .int), Cond.methodLink RX2 70 yX1_admit, Cond.instanceMethod yX1_admit]
def wsX7_runQuiet_r4 : List Cond := [Cond.selects RX1 yX1_admit yX1_admit, Cond.code yX1_admit cX1_admit 3 (some .int), Cond.methodLink RX1 31 Lib.Math.min.name, Cond.methodLink RX1 37 yX1_room, Cond.instanceMethod yX1_room, Cond.selects RX1 yX1_room yX1_room, Cond.code yX1_room cX1_room 1 (some .int), Cond.methodLink RX2 82 yX1_settle, Cond.instanceMethod yX1_settle, Cond.selects RX1 yX1_settle yX1_settle, Cond.code yX1_settle cX1_settle 2 none, Cond.methodLink RX1 41 Lib.Math.max.name, Cond.static Lib.Math.max.name, Cond.code Lib.Math.max.name Lib.Math.max.code 2 (some .int)]
def wsX7_runQuiet : List Cond := .code yX7_runQuiet cX7_runQuiet 4 none :: ((wsX7_runQuiet_r1 ++ (wsX7_runQuiet_r2 ++ (wsX7_runQuiet_r3 ++ wsX7_runQuiet_r4))) ++ wsX70 ++ wsX20 ++ wsX00 ++ wsX10)
def wsX7_weighAll_r1 : List Cond := [Cond.fieldLink RX7 16 "TokenDoors" "trial" "LTokenDoors$Hall;", Cond.fieldLink RX7 103 "TokenDoors$Hall" "turned" "I", Cond.fieldLink RX7 100 "TokenDoors$Hall" "let" "I", Cond.methodLink RX7 243 yJ6_bitCount_0f7a4, Cond.static yJ6_bitCount_0f7a4, Cond.initialized RJ6, Cond.code yJ6_bitCount_0f7a4 cJ6_bitCount_0f7a4 1 (some .int), Cond.constant RJ6 265 (1431655765), Cond.constant RJ6 266 (858993459), Cond.constant RJ6 267 (252645135), Cond.methodLink RX7 225 yX7_power, Cond.static yX7_power, Cond.initialized RX7, Cond.code yX7_power cX7_power 5 (some .long), Cond.methodLink RX7 312 yX7_runQuiet, Cond.instanceMethod yX7_runQuiet, Cond.selects RX7 yX7_runQuiet yX7_runQuiet, Cond.code yX7_runQuiet cX7_runQuiet 4 none, Cond.methodLink RX7 174 yX7_startTrial, Cond.instanceMethod yX7_startTrial, Cond.selects RX7 yX7_startTrial yX7_startTrial, Cond.code yX7_startTrial cX7_startTrial 1 none, Cond.fieldLink RX7 10 "TokenDoors" "now" "LTokenDoors$Hall;", Cond.methodLink RX7 84 yX2_become]
def wsX7_weighAll_r2 : List Cond := [Cond.instanceMethod yX2_become, Cond.selects RX2 yX2_become yX2_become, Cond.initialized RX2, Cond.code yX2_become cX2_become 4 none, Cond.fieldLink RX2 25 "TokenDoors$Hall" "doorCount" "I", Cond.fieldLink RX2 11 "TokenDoors$Hall" "doors" "[LTokenDoors$Door;", Cond.fieldLink RX2 29 "TokenDoors$Hall" "crowdCount" "I", Cond.fieldLink RX2 19 "TokenDoors$Hall" "crowds" "[LTokenDoors$Crowd;", Cond.fieldLink RX2 45 "TokenDoors$Crowd" "start" "I", Cond.fieldLink RX2 48 "TokenDoors$Crowd" "many" "I", Cond.fieldLink RX2 51 "TokenDoors$Crowd" "every" "I", Cond.fieldLink RX2 32 "TokenDoors$Hall" "tick" "I", Cond.fieldLink RX2 35 "TokenDoors$Hall" "let" "I", Cond.fieldLink RX2 38 "TokenDoors$Hall" "turned" "I", Cond.methodLink RX2 41 yX1_become, Cond.instanceMethod yX1_become, Cond.selects RX1 yX1_become yX1_become, Cond.initialized RX1, Cond.code yX1_become cX1_become 2 none, Cond.fieldLink RX1 9 "TokenDoors$Door" "kind" "I", Cond.fieldLink RX1 15 "TokenDoors$Door" "depth" "I", Cond.fieldLink RX1 18 "TokenDoors$Door" "rate" "I", Cond.fieldLink RX1 21 "TokenDoors$Door" "holds" "I", Cond.methodLink RX2 54 yX0_make]
def wsX7_weighAll_r3 : List Cond := [Cond.instanceMethod yX0_make, Cond.selects RX0 yX0_make yX0_make, Cond.initialized RX0, Cond.code yX0_make cX0_make 4 none, Cond.fieldLink RX0 7 "TokenDoors$Crowd" "start" "I", Cond.fieldLink RX0 13 "TokenDoors$Crowd" "many" "I", Cond.fieldLink RX0 16 "TokenDoors$Crowd" "every" "I", Cond.methodLink RX7 299 yX2_countAnew, Cond.instanceMethod yX2_countAnew, Cond.selects RX2 yX2_countAnew yX2_countAnew, Cond.code yX2_countAnew cX2_countAnew 2 none, Cond.methodLink RX2 58 yX1_countAnew, Cond.instanceMethod yX1_countAnew, Cond.selects RX1 yX1_countAnew yX1_countAnew, Cond.code yX1_countAnew cX1_countAnew 1 none, Cond.fieldLink RX1 24 "TokenDoors$Door" "refused" "I", Cond.fieldLink RX1 27 "TokenDoors$Door" "standsOpen" "Z", Cond.methodLink RX7 106 yX2_comers, Cond.instanceMethod yX2_comers, Cond.selects RX2 yX2_comers yX2_comers, Cond.code yX2_comers cX2_comers 3 (some .int), Cond.methodLink RX2 62 yX0_comesAt, Cond.instanceMethod yX0_comesAt, Cond.selects RX0 yX0_comesAt yX0_comesAt]
def wsX7_weighAll_r4 : List Cond := [Cond.code yX0_comesAt cX0_comesAt 2 (some .boolean), Cond.methodLink RX7 252 yX2_tickWith, Cond.instanceMethod yX2_tickWith, Cond.selects RX2 yX2_tickWith yX2_tickWith, Cond.code yX2_tickWith cX2_tickWith 4 (some .int), Cond.methodLink RX2 81 yX2_admit, Cond.instanceMethod yX2_admit, Cond.selects RX2 yX2_admit yX2_admit, Cond.code yX2_admit cX2_admit 4 (some .int), Cond.constant RX2 74 (99999), Cond.methodLink RX2 75 Lib.Math.min.name, Cond.static Lib.Math.min.name, Cond.initialized "java/lang/Math", Cond.code Lib.Math.min.name Lib.Math.min.code 2 (some .int), Cond.methodLink RX2 70 yX1_admit, Cond.instanceMethod yX1_admit, Cond.selects RX1 yX1_admit yX1_admit, Cond.code yX1_admit cX1_admit 3 (some .int), Cond.methodLink RX1 31 Lib.Math.min.name, Cond.methodLink RX1 37 yX1_room, Cond.instanceMethod yX1_room, Cond.selects RX1 yX1_room yX1_room, Cond.code yX1_room cX1_room 1 (some .int), Cond.methodLink RX2 82 yX1_settle]
def wsX7_weighAll_r5 : List Cond := [Cond.instanceMethod yX1_settle, Cond.selects RX1 yX1_settle yX1_settle, Cond.code yX1_settle cX1_settle 2 none, Cond.methodLink RX1 41 Lib.Math.max.name, Cond.static Lib.Math.max.name, Cond.code Lib.Math.max.name Lib.Math.max.code 2 (some .int)]
def wsX7_weighAll : List Cond := .code yX7_weighAll cX7_weighAll 11 (some .long) :: ((wsX7_weighAll_r1 ++ (wsX7_weighAll_r2 ++ (wsX7_weighAll_r3 ++ (wsX7_weighAll_r4 ++ wsX7_weighAll_r5)))) ++ wsX70 ++ wsX20 ++ wsX00 ++ wsX10)
def wsX7_commonDivisor : List Cond := .code yX7_commonDivisor cX7_commonDivisor 11 (some .long) :: ([])
def wsX7_part : List Cond := .code yX7_part cX7_part 7 (some .long) :: ([.methodLink RX7 319 Lib.MathLoose.max_long.x, .static Lib.MathLoose.max_long.x, .initialized "java/lang/Math", .code Lib.MathLoose.max_long.x Lib.MathLoose.max_long.code 4 (some .long), .methodLink RX7 315 yX7_commonDivisor, .static yX7_commonDivisor, .initialized RX7, .code yX7_commonDivisor cX7_commonDivisor 11 (some .long)])
def wsX7_luck_r1 : List Cond := [Cond.constantLong RX7 219 (-1), Cond.methodLink RX7 216 yX7_isOdds, Cond.static yX7_isOdds, Cond.initialized RX7, Cond.code yX7_isOdds cX7_isOdds 2 (some .boolean), Cond.methodLink RX7 199 yX7_isChoice, Cond.static yX7_isChoice, Cond.code yX7_isChoice cX7_isChoice 1 (some .boolean), Cond.methodLink RX7 221 yX7_weighAll, Cond.instanceMethod yX7_weighAll, Cond.selects RX7 yX7_weighAll yX7_weighAll, Cond.code yX7_weighAll cX7_weighAll 11 (some .long), Cond.fieldLink RX7 16 "TokenDoors" "trial" "LTokenDoors$Hall;", Cond.fieldLink RX7 103 "TokenDoors$Hall" "turned" "I", Cond.fieldLink RX7 100 "TokenDoors$Hall" "let" "I", Cond.methodLink RX7 243 yJ6_bitCount_0f7a4, Cond.static yJ6_bitCount_0f7a4, Cond.initialized RJ6, Cond.code yJ6_bitCount_0f7a4 cJ6_bitCount_0f7a4 1 (some .int), Cond.constant RJ6 265 (1431655765), Cond.constant RJ6 266 (858993459), Cond.constant RJ6 267 (252645135), Cond.methodLink RX7 225 yX7_power, Cond.static yX7_power]
def wsX7_luck_r2 : List Cond := [Cond.code yX7_power cX7_power 5 (some .long), Cond.methodLink RX7 312 yX7_runQuiet, Cond.instanceMethod yX7_runQuiet, Cond.selects RX7 yX7_runQuiet yX7_runQuiet, Cond.code yX7_runQuiet cX7_runQuiet 4 none, Cond.methodLink RX7 174 yX7_startTrial, Cond.instanceMethod yX7_startTrial, Cond.selects RX7 yX7_startTrial yX7_startTrial, Cond.code yX7_startTrial cX7_startTrial 1 none, Cond.fieldLink RX7 10 "TokenDoors" "now" "LTokenDoors$Hall;", Cond.methodLink RX7 84 yX2_become, Cond.instanceMethod yX2_become, Cond.selects RX2 yX2_become yX2_become, Cond.initialized RX2, Cond.code yX2_become cX2_become 4 none, Cond.fieldLink RX2 25 "TokenDoors$Hall" "doorCount" "I", Cond.fieldLink RX2 11 "TokenDoors$Hall" "doors" "[LTokenDoors$Door;", Cond.fieldLink RX2 29 "TokenDoors$Hall" "crowdCount" "I", Cond.fieldLink RX2 19 "TokenDoors$Hall" "crowds" "[LTokenDoors$Crowd;", Cond.fieldLink RX2 45 "TokenDoors$Crowd" "start" "I", Cond.fieldLink RX2 48 "TokenDoors$Crowd" "many" "I", Cond.fieldLink RX2 51 "TokenDoors$Crowd" "every" "I", Cond.fieldLink RX2 32 "TokenDoors$Hall" "tick" "I", Cond.fieldLink RX2 35 "TokenDoors$Hall" "let" "I"]
def wsX7_luck_r3 : List Cond := [Cond.fieldLink RX2 38 "TokenDoors$Hall" "turned" "I", Cond.methodLink RX2 41 yX1_become, Cond.instanceMethod yX1_become, Cond.selects RX1 yX1_become yX1_become, Cond.initialized RX1, Cond.code yX1_become cX1_become 2 none, Cond.fieldLink RX1 9 "TokenDoors$Door" "kind" "I", Cond.fieldLink RX1 15 "TokenDoors$Door" "depth" "I", Cond.fieldLink RX1 18 "TokenDoors$Door" "rate" "I", Cond.fieldLink RX1 21 "TokenDoors$Door" "holds" "I", Cond.methodLink RX2 54 yX0_make, Cond.instanceMethod yX0_make, Cond.selects RX0 yX0_make yX0_make, Cond.initialized RX0, Cond.code yX0_make cX0_make 4 none, Cond.fieldLink RX0 7 "TokenDoors$Crowd" "start" "I", Cond.fieldLink RX0 13 "TokenDoors$Crowd" "many" "I", Cond.fieldLink RX0 16 "TokenDoors$Crowd" "every" "I", Cond.methodLink RX7 299 yX2_countAnew, Cond.instanceMethod yX2_countAnew, Cond.selects RX2 yX2_countAnew yX2_countAnew, Cond.code yX2_countAnew cX2_countAnew 2 none, Cond.methodLink RX2 58 yX1_countAnew, Cond.instanceMethod yX1_countAnew]
def wsX7_luck_r4 : List Cond := [Cond.selects RX1 yX1_countAnew yX1_countAnew, Cond.code yX1_countAnew cX1_countAnew 1 none, Cond.fieldLink RX1 24 "TokenDoors$Door" "refused" "I", Cond.fieldLink RX1 27 "TokenDoors$Door" "standsOpen" "Z", Cond.methodLink RX7 106 yX2_comers, Cond.instanceMethod yX2_comers, Cond.selects RX2 yX2_comers yX2_comers, Cond.code yX2_comers cX2_comers 3 (some .int), Cond.methodLink RX2 62 yX0_comesAt, Cond.instanceMethod yX0_comesAt, Cond.selects RX0 yX0_comesAt yX0_comesAt, Cond.code yX0_comesAt cX0_comesAt 2 (some .boolean), Cond.methodLink RX7 252 yX2_tickWith, Cond.instanceMethod yX2_tickWith, Cond.selects RX2 yX2_tickWith yX2_tickWith, Cond.code yX2_tickWith cX2_tickWith 4 (some .int), Cond.methodLink RX2 81 yX2_admit, Cond.instanceMethod yX2_admit, Cond.selects RX2 yX2_admit yX2_admit, Cond.code yX2_admit cX2_admit 4 (some .int), Cond.constant RX2 74 (99999), Cond.methodLink RX2 75 Lib.Math.min.name, Cond.static Lib.Math.min.name, Cond.initialized "java/lang/Math"]
def wsX7_luck_r5 : List Cond := [Cond.code Lib.Math.min.name Lib.Math.min.code 2 (some .int), Cond.methodLink RX2 70 yX1_admit, Cond.instanceMethod yX1_admit, Cond.selects RX1 yX1_admit yX1_admit, Cond.code yX1_admit cX1_admit 3 (some .int), Cond.methodLink RX1 31 Lib.Math.min.name, Cond.methodLink RX1 37 yX1_room, Cond.instanceMethod yX1_room, Cond.selects RX1 yX1_room yX1_room, Cond.code yX1_room cX1_room 1 (some .int), Cond.methodLink RX2 82 yX1_settle, Cond.instanceMethod yX1_settle, Cond.selects RX1 yX1_settle yX1_settle, Cond.code yX1_settle cX1_settle 2 none, Cond.methodLink RX1 41 Lib.Math.max.name, Cond.static Lib.Math.max.name, Cond.code Lib.Math.max.name Lib.Math.max.code 2 (some .int), Cond.methodLink RX7 229 yX7_part, Cond.static yX7_part, Cond.code yX7_part cX7_part 7 (some .long), Cond.methodLink RX7 319 Lib.MathLoose.max_long.x, Cond.static Lib.MathLoose.max_long.x, Cond.code Lib.MathLoose.max_long.x Lib.MathLoose.max_long.code 4 (some .long), Cond.methodLink RX7 315 yX7_commonDivisor]
def wsX7_luck_r6 : List Cond := [Cond.static yX7_commonDivisor, Cond.code yX7_commonDivisor cX7_commonDivisor 11 (some .long)]
def wsX7_luck : List Cond := .code yX7_luck cX7_luck 4 (some .long) :: ((wsX7_luck_r1 ++ (wsX7_luck_r2 ++ (wsX7_luck_r3 ++ (wsX7_luck_r4 ++ (wsX7_luck_r5 ++ wsX7_luck_r6))))) ++ wsX70 ++ wsX20 ++ wsX00 ++ wsX10)
def wsX7_mean_r1 : List Cond := [Cond.constantLong RX7 219 (-1), Cond.methodLink RX7 216 yX7_isOdds, Cond.static yX7_isOdds, Cond.initialized RX7, Cond.code yX7_isOdds cX7_isOdds 2 (some .boolean), Cond.methodLink RX7 199 yX7_isChoice, Cond.static yX7_isChoice, Cond.code yX7_isChoice cX7_isChoice 1 (some .boolean), Cond.methodLink RX7 221 yX7_weighAll, Cond.instanceMethod yX7_weighAll, Cond.selects RX7 yX7_weighAll yX7_weighAll, Cond.code yX7_weighAll cX7_weighAll 11 (some .long), Cond.fieldLink RX7 16 "TokenDoors" "trial" "LTokenDoors$Hall;", Cond.fieldLink RX7 103 "TokenDoors$Hall" "turned" "I", Cond.fieldLink RX7 100 "TokenDoors$Hall" "let" "I", Cond.methodLink RX7 243 yJ6_bitCount_0f7a4, Cond.static yJ6_bitCount_0f7a4, Cond.initialized RJ6, Cond.code yJ6_bitCount_0f7a4 cJ6_bitCount_0f7a4 1 (some .int), Cond.constant RJ6 265 (1431655765), Cond.constant RJ6 266 (858993459), Cond.constant RJ6 267 (252645135), Cond.methodLink RX7 225 yX7_power, Cond.static yX7_power]
def wsX7_mean_r2 : List Cond := [Cond.code yX7_power cX7_power 5 (some .long), Cond.methodLink RX7 312 yX7_runQuiet, Cond.instanceMethod yX7_runQuiet, Cond.selects RX7 yX7_runQuiet yX7_runQuiet, Cond.code yX7_runQuiet cX7_runQuiet 4 none, Cond.methodLink RX7 174 yX7_startTrial, Cond.instanceMethod yX7_startTrial, Cond.selects RX7 yX7_startTrial yX7_startTrial, Cond.code yX7_startTrial cX7_startTrial 1 none, Cond.fieldLink RX7 10 "TokenDoors" "now" "LTokenDoors$Hall;", Cond.methodLink RX7 84 yX2_become, Cond.instanceMethod yX2_become, Cond.selects RX2 yX2_become yX2_become, Cond.initialized RX2, Cond.code yX2_become cX2_become 4 none, Cond.fieldLink RX2 25 "TokenDoors$Hall" "doorCount" "I", Cond.fieldLink RX2 11 "TokenDoors$Hall" "doors" "[LTokenDoors$Door;", Cond.fieldLink RX2 29 "TokenDoors$Hall" "crowdCount" "I", Cond.fieldLink RX2 19 "TokenDoors$Hall" "crowds" "[LTokenDoors$Crowd;", Cond.fieldLink RX2 45 "TokenDoors$Crowd" "start" "I", Cond.fieldLink RX2 48 "TokenDoors$Crowd" "many" "I", Cond.fieldLink RX2 51 "TokenDoors$Crowd" "every" "I", Cond.fieldLink RX2 32 "TokenDoors$Hall" "tick" "I", Cond.fieldLink RX2 35 "TokenDoors$Hall" "let" "I"]
def wsX7_mean_r3 : List Cond := [Cond.fieldLink RX2 38 "TokenDoors$Hall" "turned" "I", Cond.methodLink RX2 41 yX1_become, Cond.instanceMethod yX1_become, Cond.selects RX1 yX1_become yX1_become, Cond.initialized RX1, Cond.code yX1_become cX1_become 2 none, Cond.fieldLink RX1 9 "TokenDoors$Door" "kind" "I", Cond.fieldLink RX1 15 "TokenDoors$Door" "depth" "I", Cond.fieldLink RX1 18 "TokenDoors$Door" "rate" "I", Cond.fieldLink RX1 21 "TokenDoors$Door" "holds" "I", Cond.methodLink RX2 54 yX0_make, Cond.instanceMethod yX0_make, Cond.selects RX0 yX0_make yX0_make, Cond.initialized RX0, Cond.code yX0_make cX0_make 4 none, Cond.fieldLink RX0 7 "TokenDoors$Crowd" "start" "I", Cond.fieldLink RX0 13 "TokenDoors$Crowd" "many" "I", Cond.fieldLink RX0 16 "TokenDoors$Crowd" "every" "I", Cond.methodLink RX7 299 yX2_countAnew, Cond.instanceMethod yX2_countAnew, Cond.selects RX2 yX2_countAnew yX2_countAnew, Cond.code yX2_countAnew cX2_countAnew 2 none, Cond.methodLink RX2 58 yX1_countAnew, Cond.instanceMethod yX1_countAnew]
def wsX7_mean_r4 : List Cond := [Cond.selects RX1 yX1_countAnew yX1_countAnew, Cond.code yX1_countAnew cX1_countAnew 1 none, Cond.fieldLink RX1 24 "TokenDoors$Door" "refused" "I", Cond.fieldLink RX1 27 "TokenDoors$Door" "standsOpen" "Z", Cond.methodLink RX7 106 yX2_comers, Cond.instanceMethod yX2_comers, Cond.selects RX2 yX2_comers yX2_comers, Cond.code yX2_comers cX2_comers 3 (some .int), Cond.methodLink RX2 62 yX0_comesAt, Cond.instanceMethod yX0_comesAt, Cond.selects RX0 yX0_comesAt yX0_comesAt, Cond.code yX0_comesAt cX0_comesAt 2 (some .boolean), Cond.methodLink RX7 252 yX2_tickWith, Cond.instanceMethod yX2_tickWith, Cond.selects RX2 yX2_tickWith yX2_tickWith, Cond.code yX2_tickWith cX2_tickWith 4 (some .int), Cond.methodLink RX2 81 yX2_admit, Cond.instanceMethod yX2_admit, Cond.selects RX2 yX2_admit yX2_admit, Cond.code yX2_admit cX2_admit 4 (some .int), Cond.constant RX2 74 (99999), Cond.methodLink RX2 75 Lib.Math.min.name, Cond.static Lib.Math.min.name, Cond.initialized "java/lang/Math"]
def wsX7_mean_r5 : List Cond := [Cond.code Lib.Math.min.name Lib.Math.min.code 2 (some .int), Cond.methodLink RX2 70 yX1_admit, Cond.instanceMethod yX1_admit, Cond.selects RX1 yX1_admit yX1_admit, Cond.code yX1_admit cX1_admit 3 (some .int), Cond.methodLink RX1 31 Lib.Math.min.name, Cond.methodLink RX1 37 yX1_room, Cond.instanceMethod yX1_room, Cond.selects RX1 yX1_room yX1_room, Cond.code yX1_room cX1_room 1 (some .int), Cond.methodLink RX2 82 yX1_settle, Cond.instanceMethod yX1_settle, Cond.selects RX1 yX1_settle yX1_settle, Cond.code yX1_settle cX1_settle 2 none, Cond.methodLink RX1 41 Lib.Math.max.name, Cond.static Lib.Math.max.name, Cond.code Lib.Math.max.name Lib.Math.max.code 2 (some .int), Cond.methodLink RX7 229 yX7_part, Cond.static yX7_part, Cond.code yX7_part cX7_part 7 (some .long), Cond.methodLink RX7 319 Lib.MathLoose.max_long.x, Cond.static Lib.MathLoose.max_long.x, Cond.code Lib.MathLoose.max_long.x Lib.MathLoose.max_long.code 4 (some .long), Cond.methodLink RX7 315 yX7_commonDivisor]
def wsX7_mean_r6 : List Cond := [Cond.static yX7_commonDivisor, Cond.code yX7_commonDivisor cX7_commonDivisor 11 (some .long)]
def wsX7_mean : List Cond := .code yX7_mean cX7_mean 4 (some .long) :: ((wsX7_mean_r1 ++ (wsX7_mean_r2 ++ (wsX7_mean_r3 ++ (wsX7_mean_r4 ++ (wsX7_mean_r5 ++ wsX7_mean_r6))))) ++ wsX70 ++ wsX20 ++ wsX00 ++ wsX10)
def wsX7_see : List Cond := .code yX7_see cX7_see 3 (some .int) :: ([.fieldLink RX7 46 "TokenDoors" "seen" "LTokenDoors$Seen;", .fieldLink RX7 88 "TokenDoors$Seen" "size" "I", .methodLink RX7 233 yX3_add, .instanceMethod yX3_add, .selects RX3 yX3_add yX3_add, .initialized RX3, .code yX3_add cX3_add 3 (some .boolean), .fieldLink RX3 18 "TokenDoors$Seen" "size" "I", .fieldLink RX3 9 "TokenDoors$Seen" "inTick" "[I", .fieldLink RX3 15 "TokenDoors$Seen" "let" "[I"] ++ wsX70 ++ wsX30)
def wsX7_forget : List Cond := .code yX7_forget cX7_forget 3 (some .int) :: ([.fieldLink RX7 46 "TokenDoors" "seen" "LTokenDoors$Seen;", .fieldLink RX7 88 "TokenDoors$Seen" "size" "I"] ++ wsX70 ++ wsX30)
def wsX7_countLetByTick_r1 : List Cond := [Cond.fieldLink RX7 16 "TokenDoors" "trial" "LTokenDoors$Hall;", Cond.methodLink RX7 177 yX2_tickOn, Cond.instanceMethod yX2_tickOn, Cond.selects RX2 yX2_tickOn yX2_tickOn, Cond.initialized RX2, Cond.code yX2_tickOn cX2_tickOn 1 (some .int), Cond.methodLink RX2 86 yX2_comers, Cond.instanceMethod yX2_comers, Cond.selects RX2 yX2_comers yX2_comers, Cond.code yX2_comers cX2_comers 3 (some .int), Cond.fieldLink RX2 29 "TokenDoors$Hall" "crowdCount" "I", Cond.fieldLink RX2 19 "TokenDoors$Hall" "crowds" "[LTokenDoors$Crowd;", Cond.fieldLink RX2 32 "TokenDoors$Hall" "tick" "I", Cond.fieldLink RX2 48 "TokenDoors$Crowd" "many" "I", Cond.methodLink RX2 62 yX0_comesAt, Cond.instanceMethod yX0_comesAt, Cond.selects RX0 yX0_comesAt yX0_comesAt, Cond.initialized RX0, Cond.code yX0_comesAt cX0_comesAt 2 (some .boolean), Cond.fieldLink RX0 7 "TokenDoors$Crowd" "start" "I", Cond.fieldLink RX0 16 "TokenDoors$Crowd" "every" "I", Cond.methodLink RX2 89 yX2_tickWith, Cond.instanceMethod yX2_tickWith, Cond.selects RX2 yX2_tickWith yX2_tickWith]
def wsX7_countLetByTick_r2 : List Cond := [Cond.code yX2_tickWith cX2_tickWith 4 (some .int), Cond.fieldLink RX2 25 "TokenDoors$Hall" "doorCount" "I", Cond.fieldLink RX2 11 "TokenDoors$Hall" "doors" "[LTokenDoors$Door;", Cond.methodLink RX2 81 yX2_admit, Cond.instanceMethod yX2_admit, Cond.selects RX2 yX2_admit yX2_admit, Cond.code yX2_admit cX2_admit 4 (some .int), Cond.constant RX2 74 (99999), Cond.fieldLink RX2 35 "TokenDoors$Hall" "let" "I", Cond.methodLink RX2 75 Lib.Math.min.name, Cond.static Lib.Math.min.name, Cond.initialized "java/lang/Math", Cond.code Lib.Math.min.name Lib.Math.min.code 2 (some .int), Cond.fieldLink RX2 38 "TokenDoors$Hall" "turned" "I", Cond.methodLink RX2 70 yX1_admit, Cond.instanceMethod yX1_admit, Cond.selects RX1 yX1_admit yX1_admit, Cond.initialized RX1, Cond.code yX1_admit cX1_admit 3 (some .int), Cond.fieldLink RX1 27 "TokenDoors$Door" "standsOpen" "Z", Cond.methodLink RX1 31 Lib.Math.min.name, Cond.fieldLink RX1 21 "TokenDoors$Door" "holds" "I", Cond.fieldLink RX1 9 "TokenDoors$Door" "kind" "I", Cond.fieldLink RX1 24 "TokenDoors$Door" "refused" "I"]
def wsX7_countLetByTick_r3 : List Cond := [Cond.methodLink RX1 37 yX1_room, Cond.instanceMethod yX1_room, Cond.selects RX1 yX1_room yX1_room, Cond.code yX1_room cX1_room 1 (some .int), Cond.fieldLink RX1 15 "TokenDoors$Door" "depth" "I", Cond.methodLink RX2 82 yX1_settle, Cond.instanceMethod yX1_settle, Cond.selects RX1 yX1_settle yX1_settle, Cond.code yX1_settle cX1_settle 2 none, Cond.fieldLink RX1 18 "TokenDoors$Door" "rate" "I", Cond.methodLink RX1 41 Lib.Math.max.name, Cond.static Lib.Math.max.name, Cond.code Lib.Math.max.name Lib.Math.max.code 2 (some .int)]
def wsX7_countLetByTick : List Cond := .code yX7_countLetByTick cX7_countLetByTick 3 none :: ((wsX7_countLetByTick_r1 ++ (wsX7_countLetByTick_r2 ++ wsX7_countLetByTick_r3)) ++ wsX70 ++ wsX20 ++ wsX00 ++ wsX10)
def wsX7_fitting_r1 : List Cond := [Cond.fieldLink RX7 16 "TokenDoors" "trial" "LTokenDoors$Hall;", Cond.fieldLink RX7 115 "TokenDoors$Hall" "doors" "[LTokenDoors$Door;", Cond.fieldLink RX7 61 "TokenDoors" "letByTick" "[I", Cond.fieldLink RX7 46 "TokenDoors" "seen" "LTokenDoors$Seen;", Cond.methodLink RX7 293 yX7_lowest, Cond.static yX7_lowest, Cond.initialized RX7, Cond.code yX7_lowest cX7_lowest 1 (some .int), Cond.methodLink RX7 296 yX7_highest, Cond.static yX7_highest, Cond.code yX7_highest cX7_highest 1 (some .int), Cond.methodLink RX7 174 yX7_startTrial, Cond.instanceMethod yX7_startTrial, Cond.selects RX7 yX7_startTrial yX7_startTrial, Cond.code yX7_startTrial cX7_startTrial 1 none, Cond.fieldLink RX7 10 "TokenDoors" "now" "LTokenDoors$Hall;", Cond.methodLink RX7 84 yX2_become, Cond.instanceMethod yX2_become, Cond.selects RX2 yX2_become yX2_become, Cond.initialized RX2, Cond.code yX2_become cX2_become 4 none, Cond.fieldLink RX2 25 "TokenDoors$Hall" "doorCount" "I", Cond.fieldLink RX2 11 "TokenDoors$Hall" "doors" "[LTokenDoors$Door;", Cond.fieldLink RX2 29 "TokenDoors$Hall" "crowdCount" "I"]
def wsX7_fitting_r2 : List Cond := [Cond.fieldLink RX2 19 "TokenDoors$Hall" "crowds" "[LTokenDoors$Crowd;", Cond.fieldLink RX2 45 "TokenDoors$Crowd" "start" "I", Cond.fieldLink RX2 48 "TokenDoors$Crowd" "many" "I", Cond.fieldLink RX2 51 "TokenDoors$Crowd" "every" "I", Cond.fieldLink RX2 32 "TokenDoors$Hall" "tick" "I", Cond.fieldLink RX2 35 "TokenDoors$Hall" "let" "I", Cond.fieldLink RX2 38 "TokenDoors$Hall" "turned" "I", Cond.methodLink RX2 41 yX1_become, Cond.instanceMethod yX1_become, Cond.selects RX1 yX1_become yX1_become, Cond.initialized RX1, Cond.code yX1_become cX1_become 2 none, Cond.fieldLink RX1 9 "TokenDoors$Door" "kind" "I", Cond.fieldLink RX1 15 "TokenDoors$Door" "depth" "I", Cond.fieldLink RX1 18 "TokenDoors$Door" "rate" "I", Cond.fieldLink RX1 21 "TokenDoors$Door" "holds" "I", Cond.methodLink RX2 54 yX0_make, Cond.instanceMethod yX0_make, Cond.selects RX0 yX0_make yX0_make, Cond.initialized RX0, Cond.code yX0_make cX0_make 4 none, Cond.fieldLink RX0 7 "TokenDoors$Crowd" "start" "I", Cond.fieldLink RX0 13 "TokenDoors$Crowd" "many" "I", Cond.fieldLink RX0 16 "TokenDoors$Crowd" "every" "I"]
def wsX7_fitting_r3 : List Cond := [Cond.methodLink RX7 299 yX2_countAnew, Cond.instanceMethod yX2_countAnew, Cond.selects RX2 yX2_countAnew yX2_countAnew, Cond.code yX2_countAnew cX2_countAnew 2 none, Cond.methodLink RX2 58 yX1_countAnew, Cond.instanceMethod yX1_countAnew, Cond.selects RX1 yX1_countAnew yX1_countAnew, Cond.code yX1_countAnew cX1_countAnew 1 none, Cond.fieldLink RX1 24 "TokenDoors$Door" "refused" "I", Cond.fieldLink RX1 27 "TokenDoors$Door" "standsOpen" "Z", Cond.methodLink RX7 148 yX1_change, Cond.instanceMethod yX1_change, Cond.selects RX1 yX1_change yX1_change, Cond.code yX1_change cX1_change 3 none, Cond.methodLink RX1 31 Lib.Math.min.name, Cond.static Lib.Math.min.name, Cond.initialized "java/lang/Math", Cond.code Lib.Math.min.name Lib.Math.min.code 2 (some .int), Cond.methodLink RX7 239 yX7_countLetByTick, Cond.instanceMethod yX7_countLetByTick, Cond.selects RX7 yX7_countLetByTick yX7_countLetByTick, Cond.code yX7_countLetByTick cX7_countLetByTick 3 none, Cond.methodLink RX7 177 yX2_tickOn, Cond.instanceMethod yX2_tickOn]
def wsX7_fitting_r4 : List Cond := [Cond.selects RX2 yX2_tickOn yX2_tickOn, Cond.code yX2_tickOn cX2_tickOn 1 (some .int), Cond.methodLink RX2 86 yX2_comers, Cond.instanceMethod yX2_comers, Cond.selects RX2 yX2_comers yX2_comers, Cond.code yX2_comers cX2_comers 3 (some .int), Cond.methodLink RX2 62 yX0_comesAt, Cond.instanceMethod yX0_comesAt, Cond.selects RX0 yX0_comesAt yX0_comesAt, Cond.code yX0_comesAt cX0_comesAt 2 (some .boolean), Cond.methodLink RX2 89 yX2_tickWith, Cond.instanceMethod yX2_tickWith, Cond.selects RX2 yX2_tickWith yX2_tickWith, Cond.code yX2_tickWith cX2_tickWith 4 (some .int), Cond.methodLink RX2 81 yX2_admit, Cond.instanceMethod yX2_admit, Cond.selects RX2 yX2_admit yX2_admit, Cond.code yX2_admit cX2_admit 4 (some .int), Cond.constant RX2 74 (99999), Cond.methodLink RX2 75 Lib.Math.min.name, Cond.methodLink RX2 70 yX1_admit, Cond.instanceMethod yX1_admit, Cond.selects RX1 yX1_admit yX1_admit, Cond.code yX1_admit cX1_admit 3 (some .int)]
def wsX7_fitting_r5 : List Cond := [Cond.methodLink RX1 37 yX1_room, Cond.instanceMethod yX1_room, Cond.selects RX1 yX1_room yX1_room, Cond.code yX1_room cX1_room 1 (some .int), Cond.methodLink RX2 82 yX1_settle, Cond.instanceMethod yX1_settle, Cond.selects RX1 yX1_settle yX1_settle, Cond.code yX1_settle cX1_settle 2 none, Cond.methodLink RX1 41 Lib.Math.max.name, Cond.static Lib.Math.max.name, Cond.code Lib.Math.max.name Lib.Math.max.code 2 (some .int), Cond.methodLink RX7 302 yX3_agreesWith, Cond.instanceMethod yX3_agreesWith, Cond.selects RX3 yX3_agreesWith yX3_agreesWith, Cond.initialized RX3, Cond.code yX3_agreesWith cX3_agreesWith 3 (some .boolean), Cond.fieldLink RX3 18 "TokenDoors$Seen" "size" "I", Cond.fieldLink RX3 9 "TokenDoors$Seen" "inTick" "[I", Cond.fieldLink RX3 15 "TokenDoors$Seen" "let" "[I"]
def wsX7_fitting : List Cond := .code yX7_fitting cX7_fitting 5 (some .int) :: ((wsX7_fitting_r1 ++ (wsX7_fitting_r2 ++ (wsX7_fitting_r3 ++ (wsX7_fitting_r4 ++ wsX7_fitting_r5)))) ++ wsX70 ++ wsX20 ++ wsX00 ++ wsX10 ++ wsX30)
def wsX7_kinds_r1 : List Cond := [Cond.methodLink RX7 112 yX7_isDoor, Cond.instanceMethod yX7_isDoor, Cond.selects RX7 yX7_isDoor yX7_isDoor, Cond.initialized RX7, Cond.code yX7_isDoor cX7_isDoor 2 (some .boolean), Cond.fieldLink RX7 10 "TokenDoors" "now" "LTokenDoors$Hall;", Cond.fieldLink RX7 91 "TokenDoors$Hall" "doorCount" "I", Cond.methodLink RX7 236 yX7_fitting, Cond.instanceMethod yX7_fitting, Cond.selects RX7 yX7_fitting yX7_fitting, Cond.code yX7_fitting cX7_fitting 5 (some .int), Cond.fieldLink RX7 16 "TokenDoors" "trial" "LTokenDoors$Hall;", Cond.fieldLink RX7 115 "TokenDoors$Hall" "doors" "[LTokenDoors$Door;", Cond.fieldLink RX7 61 "TokenDoors" "letByTick" "[I", Cond.fieldLink RX7 46 "TokenDoors" "seen" "LTokenDoors$Seen;", Cond.methodLink RX7 293 yX7_lowest, Cond.static yX7_lowest, Cond.code yX7_lowest cX7_lowest 1 (some .int), Cond.methodLink RX7 296 yX7_highest, Cond.static yX7_highest, Cond.code yX7_highest cX7_highest 1 (some .int), Cond.methodLink RX7 174 yX7_startTrial, Cond.instanceMethod yX7_startTrial, Cond.selects RX7 yX7_startTrial yX7_startTrial]
def wsX7_kinds_r2 : List Cond := [Cond.code yX7_startTrial cX7_startTrial 1 none, Cond.methodLink RX7 84 yX2_become, Cond.instanceMethod yX2_become, Cond.selects RX2 yX2_become yX2_become, Cond.initialized RX2, Cond.code yX2_become cX2_become 4 none, Cond.fieldLink RX2 25 "TokenDoors$Hall" "doorCount" "I", Cond.fieldLink RX2 11 "TokenDoors$Hall" "doors" "[LTokenDoors$Door;", Cond.fieldLink RX2 29 "TokenDoors$Hall" "crowdCount" "I", Cond.fieldLink RX2 19 "TokenDoors$Hall" "crowds" "[LTokenDoors$Crowd;", Cond.fieldLink RX2 45 "TokenDoors$Crowd" "start" "I", Cond.fieldLink RX2 48 "TokenDoors$Crowd" "many" "I", Cond.fieldLink RX2 51 "TokenDoors$Crowd" "every" "I", Cond.fieldLink RX2 32 "TokenDoors$Hall" "tick" "I", Cond.fieldLink RX2 35 "TokenDoors$Hall" "let" "I", Cond.fieldLink RX2 38 "TokenDoors$Hall" "turned" "I", Cond.methodLink RX2 41 yX1_become, Cond.instanceMethod yX1_become, Cond.selects RX1 yX1_become yX1_become, Cond.initialized RX1, Cond.code yX1_become cX1_become 2 none, Cond.fieldLink RX1 9 "TokenDoors$Door" "kind" "I", Cond.fieldLink RX1 15 "TokenDoors$Door" "depth" "I", Cond.fieldLink RX1 18 "TokenDoors$Door" "rate" "I"]
def wsX7_kinds_r3 : List Cond := [Cond.fieldLink RX1 21 "TokenDoors$Door" "holds" "I", Cond.methodLink RX2 54 yX0_make, Cond.instanceMethod yX0_make, Cond.selects RX0 yX0_make yX0_make, Cond.initialized RX0, Cond.code yX0_make cX0_make 4 none, Cond.fieldLink RX0 7 "TokenDoors$Crowd" "start" "I", Cond.fieldLink RX0 13 "TokenDoors$Crowd" "many" "I", Cond.fieldLink RX0 16 "TokenDoors$Crowd" "every" "I", Cond.methodLink RX7 299 yX2_countAnew, Cond.instanceMethod yX2_countAnew, Cond.selects RX2 yX2_countAnew yX2_countAnew, Cond.code yX2_countAnew cX2_countAnew 2 none, Cond.methodLink RX2 58 yX1_countAnew, Cond.instanceMethod yX1_countAnew, Cond.selects RX1 yX1_countAnew yX1_countAnew, Cond.code yX1_countAnew cX1_countAnew 1 none, Cond.fieldLink RX1 24 "TokenDoors$Door" "refused" "I", Cond.fieldLink RX1 27 "TokenDoors$Door" "standsOpen" "Z", Cond.methodLink RX7 148 yX1_change, Cond.instanceMethod yX1_change, Cond.selects RX1 yX1_change yX1_change, Cond.code yX1_change cX1_change 3 none, Cond.methodLink RX1 31 Lib.Math.min.name]
def wsX7_kinds_r4 : List Cond := [Cond.static Lib.Math.min.name, Cond.initialized "java/lang/Math", Cond.code Lib.Math.min.name Lib.Math.min.code 2 (some .int), Cond.methodLink RX7 239 yX7_countLetByTick, Cond.instanceMethod yX7_countLetByTick, Cond.selects RX7 yX7_countLetByTick yX7_countLetByTick, Cond.code yX7_countLetByTick cX7_countLetByTick 3 none, Cond.methodLink RX7 177 yX2_tickOn, Cond.instanceMethod yX2_tickOn, Cond.selects RX2 yX2_tickOn yX2_tickOn, Cond.code yX2_tickOn cX2_tickOn 1 (some .int), Cond.methodLink RX2 86 yX2_comers, Cond.instanceMethod yX2_comers, Cond.selects RX2 yX2_comers yX2_comers, Cond.code yX2_comers cX2_comers 3 (some .int), Cond.methodLink RX2 62 yX0_comesAt, Cond.instanceMethod yX0_comesAt, Cond.selects RX0 yX0_comesAt yX0_comesAt, Cond.code yX0_comesAt cX0_comesAt 2 (some .boolean), Cond.methodLink RX2 89 yX2_tickWith, Cond.instanceMethod yX2_tickWith, Cond.selects RX2 yX2_tickWith yX2_tickWith, Cond.code yX2_tickWith cX2_tickWith 4 (some .int), Cond.methodLink RX2 81 yX2_admit]
def wsX7_kinds_r5 : List Cond := [Cond.instanceMethod yX2_admit, Cond.selects RX2 yX2_admit yX2_admit, Cond.code yX2_admit cX2_admit 4 (some .int), Cond.constant RX2 74 (99999), Cond.methodLink RX2 75 Lib.Math.min.name, Cond.methodLink RX2 70 yX1_admit, Cond.instanceMethod yX1_admit, Cond.selects RX1 yX1_admit yX1_admit, Cond.code yX1_admit cX1_admit 3 (some .int), Cond.methodLink RX1 37 yX1_room, Cond.instanceMethod yX1_room, Cond.selects RX1 yX1_room yX1_room, Cond.code yX1_room cX1_room 1 (some .int), Cond.methodLink RX2 82 yX1_settle, Cond.instanceMethod yX1_settle, Cond.selects RX1 yX1_settle yX1_settle, Cond.code yX1_settle cX1_settle 2 none, Cond.methodLink RX1 41 Lib.Math.max.name, Cond.static Lib.Math.max.name, Cond.code Lib.Math.max.name Lib.Math.max.code 2 (some .int), Cond.methodLink RX7 302 yX3_agreesWith, Cond.instanceMethod yX3_agreesWith, Cond.selects RX3 yX3_agreesWith yX3_agreesWith, Cond.initialized RX3]
def wsX7_kinds_r6 : List Cond := [Cond.code yX3_agreesWith cX3_agreesWith 3 (some .boolean), Cond.fieldLink RX3 18 "TokenDoors$Seen" "size" "I", Cond.fieldLink RX3 9 "TokenDoors$Seen" "inTick" "[I", Cond.fieldLink RX3 15 "TokenDoors$Seen" "let" "[I"]
def wsX7_kinds : List Cond := .code yX7_kinds cX7_kinds 2 (some .int) :: ((wsX7_kinds_r1 ++ (wsX7_kinds_r2 ++ (wsX7_kinds_r3 ++ (wsX7_kinds_r4 ++ (wsX7_kinds_r5 ++ wsX7_kinds_r6))))) ++ wsX70 ++ wsX20 ++ wsX00 ++ wsX10 ++ wsX30)
def wsX7_depths_r1 : List Cond := [Cond.methodLink RX7 112 yX7_isDoor, Cond.instanceMethod yX7_isDoor, Cond.selects RX7 yX7_isDoor yX7_isDoor, Cond.initialized RX7, Cond.code yX7_isDoor cX7_isDoor 2 (some .boolean), Cond.fieldLink RX7 10 "TokenDoors" "now" "LTokenDoors$Hall;", Cond.fieldLink RX7 91 "TokenDoors$Hall" "doorCount" "I", Cond.methodLink RX7 236 yX7_fitting, Cond.instanceMethod yX7_fitting, Cond.selects RX7 yX7_fitting yX7_fitting, Cond.code yX7_fitting cX7_fitting 5 (some .int), Cond.fieldLink RX7 16 "TokenDoors" "trial" "LTokenDoors$Hall;", Cond.fieldLink RX7 115 "TokenDoors$Hall" "doors" "[LTokenDoors$Door;", Cond.fieldLink RX7 61 "TokenDoors" "letByTick" "[I", Cond.fieldLink RX7 46 "TokenDoors" "seen" "LTokenDoors$Seen;", Cond.methodLink RX7 293 yX7_lowest, Cond.static yX7_lowest, Cond.code yX7_lowest cX7_lowest 1 (some .int), Cond.methodLink RX7 296 yX7_highest, Cond.static yX7_highest, Cond.code yX7_highest cX7_highest 1 (some .int), Cond.methodLink RX7 174 yX7_startTrial, Cond.instanceMethod yX7_startTrial, Cond.selects RX7 yX7_startTrial yX7_startTrial]
def wsX7_depths_r2 : List Cond := [Cond.code yX7_startTrial cX7_startTrial 1 none, Cond.methodLink RX7 84 yX2_become, Cond.instanceMethod yX2_become, Cond.selects RX2 yX2_become yX2_become, Cond.initialized RX2, Cond.code yX2_become cX2_become 4 none, Cond.fieldLink RX2 25 "TokenDoors$Hall" "doorCount" "I", Cond.fieldLink RX2 11 "TokenDoors$Hall" "doors" "[LTokenDoors$Door;", Cond.fieldLink RX2 29 "TokenDoors$Hall" "crowdCount" "I", Cond.fieldLink RX2 19 "TokenDoors$Hall" "crowds" "[LTokenDoors$Crowd;", Cond.fieldLink RX2 45 "TokenDoors$Crowd" "start" "I", Cond.fieldLink RX2 48 "TokenDoors$Crowd" "many" "I", Cond.fieldLink RX2 51 "TokenDoors$Crowd" "every" "I", Cond.fieldLink RX2 32 "TokenDoors$Hall" "tick" "I", Cond.fieldLink RX2 35 "TokenDoors$Hall" "let" "I", Cond.fieldLink RX2 38 "TokenDoors$Hall" "turned" "I", Cond.methodLink RX2 41 yX1_become, Cond.instanceMethod yX1_become, Cond.selects RX1 yX1_become yX1_become, Cond.initialized RX1, Cond.code yX1_become cX1_become 2 none, Cond.fieldLink RX1 9 "TokenDoors$Door" "kind" "I", Cond.fieldLink RX1 15 "TokenDoors$Door" "depth" "I", Cond.fieldLink RX1 18 "TokenDoors$Door" "rate" "I"]
def wsX7_depths_r3 : List Cond := [Cond.fieldLink RX1 21 "TokenDoors$Door" "holds" "I", Cond.methodLink RX2 54 yX0_make, Cond.instanceMethod yX0_make, Cond.selects RX0 yX0_make yX0_make, Cond.initialized RX0, Cond.code yX0_make cX0_make 4 none, Cond.fieldLink RX0 7 "TokenDoors$Crowd" "start" "I", Cond.fieldLink RX0 13 "TokenDoors$Crowd" "many" "I", Cond.fieldLink RX0 16 "TokenDoors$Crowd" "every" "I", Cond.methodLink RX7 299 yX2_countAnew, Cond.instanceMethod yX2_countAnew, Cond.selects RX2 yX2_countAnew yX2_countAnew, Cond.code yX2_countAnew cX2_countAnew 2 none, Cond.methodLink RX2 58 yX1_countAnew, Cond.instanceMethod yX1_countAnew, Cond.selects RX1 yX1_countAnew yX1_countAnew, Cond.code yX1_countAnew cX1_countAnew 1 none, Cond.fieldLink RX1 24 "TokenDoors$Door" "refused" "I", Cond.fieldLink RX1 27 "TokenDoors$Door" "standsOpen" "Z", Cond.methodLink RX7 148 yX1_change, Cond.instanceMethod yX1_change, Cond.selects RX1 yX1_change yX1_change, Cond.code yX1_change cX1_change 3 none, Cond.methodLink RX1 31 Lib.Math.min.name]
def wsX7_depths_r4 : List Cond := [Cond.static Lib.Math.min.name, Cond.initialized "java/lang/Math", Cond.code Lib.Math.min.name Lib.Math.min.code 2 (some .int), Cond.methodLink RX7 239 yX7_countLetByTick, Cond.instanceMethod yX7_countLetByTick, Cond.selects RX7 yX7_countLetByTick yX7_countLetByTick, Cond.code yX7_countLetByTick cX7_countLetByTick 3 none, Cond.methodLink RX7 177 yX2_tickOn, Cond.instanceMethod yX2_tickOn, Cond.selects RX2 yX2_tickOn yX2_tickOn, Cond.code yX2_tickOn cX2_tickOn 1 (some .int), Cond.methodLink RX2 86 yX2_comers, Cond.instanceMethod yX2_comers, Cond.selects RX2 yX2_comers yX2_comers, Cond.code yX2_comers cX2_comers 3 (some .int), Cond.methodLink RX2 62 yX0_comesAt, Cond.instanceMethod yX0_comesAt, Cond.selects RX0 yX0_comesAt yX0_comesAt, Cond.code yX0_comesAt cX0_comesAt 2 (some .boolean), Cond.methodLink RX2 89 yX2_tickWith, Cond.instanceMethod yX2_tickWith, Cond.selects RX2 yX2_tickWith yX2_tickWith, Cond.code yX2_tickWith cX2_tickWith 4 (some .int), Cond.methodLink RX2 81 yX2_admit]
def wsX7_depths_r5 : List Cond := [Cond.instanceMethod yX2_admit, Cond.selects RX2 yX2_admit yX2_admit, Cond.code yX2_admit cX2_admit 4 (some .int), Cond.constant RX2 74 (99999), Cond.methodLink RX2 75 Lib.Math.min.name, Cond.methodLink RX2 70 yX1_admit, Cond.instanceMethod yX1_admit, Cond.selects RX1 yX1_admit yX1_admit, Cond.code yX1_admit cX1_admit 3 (some .int), Cond.methodLink RX1 37 yX1_room, Cond.instanceMethod yX1_room, Cond.selects RX1 yX1_room yX1_room, Cond.code yX1_room cX1_room 1 (some .int), Cond.methodLink RX2 82 yX1_settle, Cond.instanceMethod yX1_settle, Cond.selects RX1 yX1_settle yX1_settle, Cond.code yX1_settle cX1_settle 2 none, Cond.methodLink RX1 41 Lib.Math.max.name, Cond.static Lib.Math.max.name, Cond.code Lib.Math.max.name Lib.Math.max.code 2 (some .int), Cond.methodLink RX7 302 yX3_agreesWith, Cond.instanceMethod yX3_agreesWith, Cond.selects RX3 yX3_agreesWith yX3_agreesWith, Cond.initialized RX3]
def wsX7_depths_r6 : List Cond := [Cond.code yX3_agreesWith cX3_agreesWith 3 (some .boolean), Cond.fieldLink RX3 18 "TokenDoors$Seen" "size" "I", Cond.fieldLink RX3 9 "TokenDoors$Seen" "inTick" "[I", Cond.fieldLink RX3 15 "TokenDoors$Seen" "let" "[I"]
def wsX7_depths : List Cond := .code yX7_depths cX7_depths 2 (some .int) :: ((wsX7_depths_r1 ++ (wsX7_depths_r2 ++ (wsX7_depths_r3 ++ (wsX7_depths_r4 ++ (wsX7_depths_r5 ++ wsX7_depths_r6))))) ++ wsX70 ++ wsX20 ++ wsX00 ++ wsX10 ++ wsX30)
def wsX7_rates_r1 : List Cond := [Cond.methodLink RX7 112 yX7_isDoor, Cond.instanceMethod yX7_isDoor, Cond.selects RX7 yX7_isDoor yX7_isDoor, Cond.initialized RX7, Cond.code yX7_isDoor cX7_isDoor 2 (some .boolean), Cond.fieldLink RX7 10 "TokenDoors" "now" "LTokenDoors$Hall;", Cond.fieldLink RX7 91 "TokenDoors$Hall" "doorCount" "I", Cond.methodLink RX7 236 yX7_fitting, Cond.instanceMethod yX7_fitting, Cond.selects RX7 yX7_fitting yX7_fitting, Cond.code yX7_fitting cX7_fitting 5 (some .int), Cond.fieldLink RX7 16 "TokenDoors" "trial" "LTokenDoors$Hall;", Cond.fieldLink RX7 115 "TokenDoors$Hall" "doors" "[LTokenDoors$Door;", Cond.fieldLink RX7 61 "TokenDoors" "letByTick" "[I", Cond.fieldLink RX7 46 "TokenDoors" "seen" "LTokenDoors$Seen;", Cond.methodLink RX7 293 yX7_lowest, Cond.static yX7_lowest, Cond.code yX7_lowest cX7_lowest 1 (some .int), Cond.methodLink RX7 296 yX7_highest, Cond.static yX7_highest, Cond.code yX7_highest cX7_highest 1 (some .int), Cond.methodLink RX7 174 yX7_startTrial, Cond.instanceMethod yX7_startTrial, Cond.selects RX7 yX7_startTrial yX7_startTrial]
def wsX7_rates_r2 : List Cond := [Cond.code yX7_startTrial cX7_startTrial 1 none, Cond.methodLink RX7 84 yX2_become, Cond.instanceMethod yX2_become, Cond.selects RX2 yX2_become yX2_become, Cond.initialized RX2, Cond.code yX2_become cX2_become 4 none, Cond.fieldLink RX2 25 "TokenDoors$Hall" "doorCount" "I", Cond.fieldLink RX2 11 "TokenDoors$Hall" "doors" "[LTokenDoors$Door;", Cond.fieldLink RX2 29 "TokenDoors$Hall" "crowdCount" "I", Cond.fieldLink RX2 19 "TokenDoors$Hall" "crowds" "[LTokenDoors$Crowd;", Cond.fieldLink RX2 45 "TokenDoors$Crowd" "start" "I", Cond.fieldLink RX2 48 "TokenDoors$Crowd" "many" "I", Cond.fieldLink RX2 51 "TokenDoors$Crowd" "every" "I", Cond.fieldLink RX2 32 "TokenDoors$Hall" "tick" "I", Cond.fieldLink RX2 35 "TokenDoors$Hall" "let" "I", Cond.fieldLink RX2 38 "TokenDoors$Hall" "turned" "I", Cond.methodLink RX2 41 yX1_become, Cond.instanceMethod yX1_become, Cond.selects RX1 yX1_become yX1_become, Cond.initialized RX1, Cond.code yX1_become cX1_become 2 none, Cond.fieldLink RX1 9 "TokenDoors$Door" "kind" "I", Cond.fieldLink RX1 15 "TokenDoors$Door" "depth" "I", Cond.fieldLink RX1 18 "TokenDoors$Door" "rate" "I"]
def wsX7_rates_r3 : List Cond := [Cond.fieldLink RX1 21 "TokenDoors$Door" "holds" "I", Cond.methodLink RX2 54 yX0_make, Cond.instanceMethod yX0_make, Cond.selects RX0 yX0_make yX0_make, Cond.initialized RX0, Cond.code yX0_make cX0_make 4 none, Cond.fieldLink RX0 7 "TokenDoors$Crowd" "start" "I", Cond.fieldLink RX0 13 "TokenDoors$Crowd" "many" "I", Cond.fieldLink RX0 16 "TokenDoors$Crowd" "every" "I", Cond.methodLink RX7 299 yX2_countAnew, Cond.instanceMethod yX2_countAnew, Cond.selects RX2 yX2_countAnew yX2_countAnew, Cond.code yX2_countAnew cX2_countAnew 2 none, Cond.methodLink RX2 58 yX1_countAnew, Cond.instanceMethod yX1_countAnew, Cond.selects RX1 yX1_countAnew yX1_countAnew, Cond.code yX1_countAnew cX1_countAnew 1 none, Cond.fieldLink RX1 24 "TokenDoors$Door" "refused" "I", Cond.fieldLink RX1 27 "TokenDoors$Door" "standsOpen" "Z", Cond.methodLink RX7 148 yX1_change, Cond.instanceMethod yX1_change, Cond.selects RX1 yX1_change yX1_change, Cond.code yX1_change cX1_change 3 none, Cond.methodLink RX1 31 Lib.Math.min.name]
def wsX7_rates_r4 : List Cond := [Cond.static Lib.Math.min.name, Cond.initialized "java/lang/Math", Cond.code Lib.Math.min.name Lib.Math.min.code 2 (some .int), Cond.methodLink RX7 239 yX7_countLetByTick, Cond.instanceMethod yX7_countLetByTick, Cond.selects RX7 yX7_countLetByTick yX7_countLetByTick, Cond.code yX7_countLetByTick cX7_countLetByTick 3 none, Cond.methodLink RX7 177 yX2_tickOn, Cond.instanceMethod yX2_tickOn, Cond.selects RX2 yX2_tickOn yX2_tickOn, Cond.code yX2_tickOn cX2_tickOn 1 (some .int), Cond.methodLink RX2 86 yX2_comers, Cond.instanceMethod yX2_comers, Cond.selects RX2 yX2_comers yX2_comers, Cond.code yX2_comers cX2_comers 3 (some .int), Cond.methodLink RX2 62 yX0_comesAt, Cond.instanceMethod yX0_comesAt, Cond.selects RX0 yX0_comesAt yX0_comesAt, Cond.code yX0_comesAt cX0_comesAt 2 (some .boolean), Cond.methodLink RX2 89 yX2_tickWith, Cond.instanceMethod yX2_tickWith, Cond.selects RX2 yX2_tickWith yX2_tickWith, Cond.code yX2_tickWith cX2_tickWith 4 (some .int), Cond.methodLink RX2 81 yX2_admit]
def wsX7_rates_r5 : List Cond := [Cond.instanceMethod yX2_admit, Cond.selects RX2 yX2_admit yX2_admit, Cond.code yX2_admit cX2_admit 4 (some .int), Cond.constant RX2 74 (99999), Cond.methodLink RX2 75 Lib.Math.min.name, Cond.methodLink RX2 70 yX1_admit, Cond.instanceMethod yX1_admit, Cond.selects RX1 yX1_admit yX1_admit, Cond.code yX1_admit cX1_admit 3 (some .int), Cond.methodLink RX1 37 yX1_room, Cond.instanceMethod yX1_room, Cond.selects RX1 yX1_room yX1_room, Cond.code yX1_room cX1_room 1 (some .int), Cond.methodLink RX2 82 yX1_settle, Cond.instanceMethod yX1_settle, Cond.selects RX1 yX1_settle yX1_settle, Cond.code yX1_settle cX1_settle 2 none, Cond.methodLink RX1 41 Lib.Math.max.name, Cond.static Lib.Math.max.name, Cond.code Lib.Math.max.name Lib.Math.max.code 2 (some .int), Cond.methodLink RX7 302 yX3_agreesWith, Cond.instanceMethod yX3_agreesWith, Cond.selects RX3 yX3_agreesWith yX3_agreesWith, Cond.initialized RX3]
def wsX7_rates_r6 : List Cond := [Cond.code yX3_agreesWith cX3_agreesWith 3 (some .boolean), Cond.fieldLink RX3 18 "TokenDoors$Seen" "size" "I", Cond.fieldLink RX3 9 "TokenDoors$Seen" "inTick" "[I", Cond.fieldLink RX3 15 "TokenDoors$Seen" "let" "[I"]
def wsX7_rates : List Cond := .code yX7_rates cX7_rates 2 (some .int) :: ((wsX7_rates_r1 ++ (wsX7_rates_r2 ++ (wsX7_rates_r3 ++ (wsX7_rates_r4 ++ (wsX7_rates_r5 ++ wsX7_rates_r6))))) ++ wsX70 ++ wsX20 ++ wsX00 ++ wsX10 ++ wsX30)
def wsX7_sharing : List Cond := .code yX7_sharing cX7_sharing 6 (some .int) :: ([.fieldLink RX7 58 "TokenDoors" "letByRate" "[[I"] ++ wsX70)
def wsX7_leftAtWorst : List Cond := .code yX7_leftAtWorst cX7_leftAtWorst 5 (some .int) :: ([.fieldLink RX7 58 "TokenDoors" "letByRate" "[[I", .methodLink RX7 180 Lib.Math.max.name, .static Lib.Math.max.name, .initialized "java/lang/Math", .code Lib.Math.max.name Lib.Math.max.code 2 (some .int), .methodLink RX7 306 yX7_sharing, .instanceMethod yX7_sharing, .selects RX7 yX7_sharing yX7_sharing, .initialized RX7, .code yX7_sharing cX7_sharing 6 (some .int)] ++ wsX70)
def wsX7_ask_r1 : List Cond := [Cond.fieldLink RX7 16 "TokenDoors" "trial" "LTokenDoors$Hall;", Cond.fieldLink RX7 115 "TokenDoors$Hall" "doors" "[LTokenDoors$Door;", Cond.fieldLink RX7 58 "TokenDoors" "letByRate" "[[I", Cond.methodLink RX7 112 yX7_isDoor, Cond.instanceMethod yX7_isDoor, Cond.selects RX7 yX7_isDoor yX7_isDoor, Cond.initialized RX7, Cond.code yX7_isDoor cX7_isDoor 2 (some .boolean), Cond.fieldLink RX7 10 "TokenDoors" "now" "LTokenDoors$Hall;", Cond.fieldLink RX7 91 "TokenDoors$Hall" "doorCount" "I", Cond.methodLink RX7 199 yX7_isChoice, Cond.static yX7_isChoice, Cond.code yX7_isChoice cX7_isChoice 1 (some .boolean), Cond.methodLink RX7 236 yX7_fitting, Cond.instanceMethod yX7_fitting, Cond.selects RX7 yX7_fitting yX7_fitting, Cond.code yX7_fitting cX7_fitting 5 (some .int), Cond.fieldLink RX7 61 "TokenDoors" "letByTick" "[I", Cond.fieldLink RX7 46 "TokenDoors" "seen" "LTokenDoors$Seen;", Cond.methodLink RX7 293 yX7_lowest, Cond.static yX7_lowest, Cond.code yX7_lowest cX7_lowest 1 (some .int), Cond.methodLink RX7 296 yX7_highest, Cond.static yX7_highest]
def wsX7_ask_r2 : List Cond := [Cond.code yX7_highest cX7_highest 1 (some .int), Cond.methodLink RX7 174 yX7_startTrial, Cond.instanceMethod yX7_startTrial, Cond.selects RX7 yX7_startTrial yX7_startTrial, Cond.code yX7_startTrial cX7_startTrial 1 none, Cond.methodLink RX7 84 yX2_become, Cond.instanceMethod yX2_become, Cond.selects RX2 yX2_become yX2_become, Cond.initialized RX2, Cond.code yX2_become cX2_become 4 none, Cond.fieldLink RX2 25 "TokenDoors$Hall" "doorCount" "I", Cond.fieldLink RX2 11 "TokenDoors$Hall" "doors" "[LTokenDoors$Door;", Cond.fieldLink RX2 29 "TokenDoors$Hall" "crowdCount" "I", Cond.fieldLink RX2 19 "TokenDoors$Hall" "crowds" "[LTokenDoors$Crowd;", Cond.fieldLink RX2 45 "TokenDoors$Crowd" "start" "I", Cond.fieldLink RX2 48 "TokenDoors$Crowd" "many" "I", Cond.fieldLink RX2 51 "TokenDoors$Crowd" "every" "I", Cond.fieldLink RX2 32 "TokenDoors$Hall" "tick" "I", Cond.fieldLink RX2 35 "TokenDoors$Hall" "let" "I", Cond.fieldLink RX2 38 "TokenDoors$Hall" "turned" "I", Cond.methodLink RX2 41 yX1_become, Cond.instanceMethod yX1_become, Cond.selects RX1 yX1_become yX1_become, Cond.initialized RX1]
def wsX7_ask_r3 : List Cond := [Cond.code yX1_become cX1_become 2 none, Cond.fieldLink RX1 9 "TokenDoors$Door" "kind" "I", Cond.fieldLink RX1 15 "TokenDoors$Door" "depth" "I", Cond.fieldLink RX1 18 "TokenDoors$Door" "rate" "I", Cond.fieldLink RX1 21 "TokenDoors$Door" "holds" "I", Cond.methodLink RX2 54 yX0_make, Cond.instanceMethod yX0_make, Cond.selects RX0 yX0_make yX0_make, Cond.initialized RX0, Cond.code yX0_make cX0_make 4 none, Cond.fieldLink RX0 7 "TokenDoors$Crowd" "start" "I", Cond.fieldLink RX0 13 "TokenDoors$Crowd" "many" "I", Cond.fieldLink RX0 16 "TokenDoors$Crowd" "every" "I", Cond.methodLink RX7 299 yX2_countAnew, Cond.instanceMethod yX2_countAnew, Cond.selects RX2 yX2_countAnew yX2_countAnew, Cond.code yX2_countAnew cX2_countAnew 2 none, Cond.methodLink RX2 58 yX1_countAnew, Cond.instanceMethod yX1_countAnew, Cond.selects RX1 yX1_countAnew yX1_countAnew, Cond.code yX1_countAnew cX1_countAnew 1 none, Cond.fieldLink RX1 24 "TokenDoors$Door" "refused" "I", Cond.fieldLink RX1 27 "TokenDoors$Door" "standsOpen" "Z", Cond.methodLink RX7 148 yX1_change]
def wsX7_ask_r4 : List Cond := [Cond.instanceMethod yX1_change, Cond.selects RX1 yX1_change yX1_change, Cond.code yX1_change cX1_change 3 none, Cond.methodLink RX1 31 Lib.Math.min.name, Cond.static Lib.Math.min.name, Cond.initialized "java/lang/Math", Cond.code Lib.Math.min.name Lib.Math.min.code 2 (some .int), Cond.methodLink RX7 239 yX7_countLetByTick, Cond.instanceMethod yX7_countLetByTick, Cond.selects RX7 yX7_countLetByTick yX7_countLetByTick, Cond.code yX7_countLetByTick cX7_countLetByTick 3 none, Cond.methodLink RX7 177 yX2_tickOn, Cond.instanceMethod yX2_tickOn, Cond.selects RX2 yX2_tickOn yX2_tickOn, Cond.code yX2_tickOn cX2_tickOn 1 (some .int), Cond.methodLink RX2 86 yX2_comers, Cond.instanceMethod yX2_comers, Cond.selects RX2 yX2_comers yX2_comers, Cond.code yX2_comers cX2_comers 3 (some .int), Cond.methodLink RX2 62 yX0_comesAt, Cond.instanceMethod yX0_comesAt, Cond.selects RX0 yX0_comesAt yX0_comesAt, Cond.code yX0_comesAt cX0_comesAt 2 (some .boolean), Cond.methodLink RX2 89 yX2_tickWith]
def wsX7_ask_r5 : List Cond := [Cond.instanceMethod yX2_tickWith, Cond.selects RX2 yX2_tickWith yX2_tickWith, Cond.code yX2_tickWith cX2_tickWith 4 (some .int), Cond.methodLink RX2 81 yX2_admit, Cond.instanceMethod yX2_admit, Cond.selects RX2 yX2_admit yX2_admit, Cond.code yX2_admit cX2_admit 4 (some .int), Cond.constant RX2 74 (99999), Cond.methodLink RX2 75 Lib.Math.min.name, Cond.methodLink RX2 70 yX1_admit, Cond.instanceMethod yX1_admit, Cond.selects RX1 yX1_admit yX1_admit, Cond.code yX1_admit cX1_admit 3 (some .int), Cond.methodLink RX1 37 yX1_room, Cond.instanceMethod yX1_room, Cond.selects RX1 yX1_room yX1_room, Cond.code yX1_room cX1_room 1 (some .int), Cond.methodLink RX2 82 yX1_settle, Cond.instanceMethod yX1_settle, Cond.selects RX1 yX1_settle yX1_settle, Cond.code yX1_settle cX1_settle 2 none, Cond.methodLink RX1 41 Lib.Math.max.name, Cond.static Lib.Math.max.name, Cond.code Lib.Math.max.name Lib.Math.max.code 2 (some .int)]
def wsX7_ask_r6 : List Cond := [Cond.methodLink RX7 302 yX3_agreesWith, Cond.instanceMethod yX3_agreesWith, Cond.selects RX3 yX3_agreesWith yX3_agreesWith, Cond.initialized RX3, Cond.code yX3_agreesWith cX3_agreesWith 3 (some .boolean), Cond.fieldLink RX3 18 "TokenDoors$Seen" "size" "I", Cond.fieldLink RX3 9 "TokenDoors$Seen" "inTick" "[I", Cond.fieldLink RX3 15 "TokenDoors$Seen" "let" "[I", Cond.methodLink RX7 243 yJ6_bitCount_0f7a4, Cond.static yJ6_bitCount_0f7a4, Cond.initialized RJ6, Cond.code yJ6_bitCount_0f7a4 cJ6_bitCount_0f7a4 1 (some .int), Cond.constant RJ6 265 (1431655765), Cond.constant RJ6 266 (858993459), Cond.constant RJ6 267 (252645135), Cond.methodLink RX7 248 yX7_leftAtWorst, Cond.instanceMethod yX7_leftAtWorst, Cond.selects RX7 yX7_leftAtWorst yX7_leftAtWorst, Cond.code yX7_leftAtWorst cX7_leftAtWorst 5 (some .int), Cond.methodLink RX7 180 Lib.Math.max.name, Cond.methodLink RX7 306 yX7_sharing, Cond.instanceMethod yX7_sharing, Cond.selects RX7 yX7_sharing yX7_sharing, Cond.code yX7_sharing cX7_sharing 6 (some .int)]
def wsX7_ask : List Cond := .code yX7_ask cX7_ask 8 (some .int) :: ((wsX7_ask_r1 ++ (wsX7_ask_r2 ++ (wsX7_ask_r3 ++ (wsX7_ask_r4 ++ (wsX7_ask_r5 ++ wsX7_ask_r6))))) ++ wsX70 ++ wsX20 ++ wsX00 ++ wsX10 ++ wsX30)
def wsX7_drift_r1 : List Cond := [Cond.fieldLink RX7 10 "TokenDoors" "now" "LTokenDoors$Hall;", Cond.fieldLink RX7 91 "TokenDoors$Hall" "doorCount" "I", Cond.constant RX7 251 (1103515245), Cond.fieldLink RX7 16 "TokenDoors" "trial" "LTokenDoors$Hall;", Cond.fieldLink RX7 100 "TokenDoors$Hall" "let" "I", Cond.fieldLink RX7 103 "TokenDoors$Hall" "turned" "I", Cond.methodLink RX7 168 yX7_isRun, Cond.static yX7_isRun, Cond.initialized RX7, Cond.code yX7_isRun cX7_isRun 1 (some .boolean), Cond.methodLink RX7 199 yX7_isChoice, Cond.static yX7_isChoice, Cond.code yX7_isChoice cX7_isChoice 1 (some .boolean), Cond.methodLink RX7 174 yX7_startTrial, Cond.instanceMethod yX7_startTrial, Cond.selects RX7 yX7_startTrial yX7_startTrial, Cond.code yX7_startTrial cX7_startTrial 1 none, Cond.methodLink RX7 84 yX2_become, Cond.instanceMethod yX2_become, Cond.selects RX2 yX2_become yX2_become, Cond.initialized RX2, Cond.code yX2_become cX2_become 4 none, Cond.fieldLink RX2 25 "TokenDoors$Hall" "doorCount" "I", Cond.fieldLink RX2 11 "TokenDoors$Hall" "doors" "[LTokenDoors$Door;"]
def wsX7_drift_r2 : List Cond := [Cond.fieldLink RX2 29 "TokenDoors$Hall" "crowdCount" "I", Cond.fieldLink RX2 19 "TokenDoors$Hall" "crowds" "[LTokenDoors$Crowd;", Cond.fieldLink RX2 45 "TokenDoors$Crowd" "start" "I", Cond.fieldLink RX2 48 "TokenDoors$Crowd" "many" "I", Cond.fieldLink RX2 51 "TokenDoors$Crowd" "every" "I", Cond.fieldLink RX2 32 "TokenDoors$Hall" "tick" "I", Cond.fieldLink RX2 35 "TokenDoors$Hall" "let" "I", Cond.fieldLink RX2 38 "TokenDoors$Hall" "turned" "I", Cond.methodLink RX2 41 yX1_become, Cond.instanceMethod yX1_become, Cond.selects RX1 yX1_become yX1_become, Cond.initialized RX1, Cond.code yX1_become cX1_become 2 none, Cond.fieldLink RX1 9 "TokenDoors$Door" "kind" "I", Cond.fieldLink RX1 15 "TokenDoors$Door" "depth" "I", Cond.fieldLink RX1 18 "TokenDoors$Door" "rate" "I", Cond.fieldLink RX1 21 "TokenDoors$Door" "holds" "I", Cond.methodLink RX2 54 yX0_make, Cond.instanceMethod yX0_make, Cond.selects RX0 yX0_make yX0_make, Cond.initialized RX0, Cond.code yX0_make cX0_make 4 none, Cond.fieldLink RX0 7 "TokenDoors$Crowd" "start" "I", Cond.fieldLink RX0 13 "TokenDoors$Crowd" "many" "I"]
def wsX7_drift_r3 : List Cond := [Cond.fieldLink RX0 16 "TokenDoors$Crowd" "every" "I", Cond.methodLink RX7 299 yX2_countAnew, Cond.instanceMethod yX2_countAnew, Cond.selects RX2 yX2_countAnew yX2_countAnew, Cond.code yX2_countAnew cX2_countAnew 2 none, Cond.methodLink RX2 58 yX1_countAnew, Cond.instanceMethod yX1_countAnew, Cond.selects RX1 yX1_countAnew yX1_countAnew, Cond.code yX1_countAnew cX1_countAnew 1 none, Cond.fieldLink RX1 24 "TokenDoors$Door" "refused" "I", Cond.fieldLink RX1 27 "TokenDoors$Door" "standsOpen" "Z", Cond.methodLink RX7 252 yX2_tickWith, Cond.instanceMethod yX2_tickWith, Cond.selects RX2 yX2_tickWith yX2_tickWith, Cond.code yX2_tickWith cX2_tickWith 4 (some .int), Cond.methodLink RX2 81 yX2_admit, Cond.instanceMethod yX2_admit, Cond.selects RX2 yX2_admit yX2_admit, Cond.code yX2_admit cX2_admit 4 (some .int), Cond.constant RX2 74 (99999), Cond.methodLink RX2 75 Lib.Math.min.name, Cond.static Lib.Math.min.name, Cond.initialized "java/lang/Math", Cond.code Lib.Math.min.name Lib.Math.min.code 2 (some .int)]
def wsX7_drift_r4 : List Cond := [Cond.methodLink RX2 70 yX1_admit, Cond.instanceMethod yX1_admit, Cond.selects RX1 yX1_admit yX1_admit, Cond.code yX1_admit cX1_admit 3 (some .int), Cond.methodLink RX1 31 Lib.Math.min.name, Cond.methodLink RX1 37 yX1_room, Cond.instanceMethod yX1_room, Cond.selects RX1 yX1_room yX1_room, Cond.code yX1_room cX1_room 1 (some .int), Cond.methodLink RX2 82 yX1_settle, Cond.instanceMethod yX1_settle, Cond.selects RX1 yX1_settle yX1_settle, Cond.code yX1_settle cX1_settle 2 none, Cond.methodLink RX1 41 Lib.Math.max.name, Cond.static Lib.Math.max.name, Cond.code Lib.Math.max.name Lib.Math.max.code 2 (some .int)]
def wsX7_drift : List Cond := .code yX7_drift cX7_drift 7 (some .int) :: ((wsX7_drift_r1 ++ (wsX7_drift_r2 ++ (wsX7_drift_r3 ++ wsX7_drift_r4))) ++ wsX70 ++ wsX20 ++ wsX00 ++ wsX10)
def wsX7_keep_r1 : List Cond := [Cond.fieldLink RX7 23 "TokenDoors" "kept" "[Z", Cond.fieldLink RX7 19 "TokenDoors" "images" "[LTokenDoors$Hall;", Cond.fieldLink RX7 10 "TokenDoors" "now" "LTokenDoors$Hall;", Cond.methodLink RX7 84 yX2_become, Cond.instanceMethod yX2_become, Cond.selects RX2 yX2_become yX2_become, Cond.initialized RX2, Cond.code yX2_become cX2_become 4 none, Cond.fieldLink RX2 25 "TokenDoors$Hall" "doorCount" "I", Cond.fieldLink RX2 11 "TokenDoors$Hall" "doors" "[LTokenDoors$Door;", Cond.fieldLink RX2 29 "TokenDoors$Hall" "crowdCount" "I", Cond.fieldLink RX2 19 "TokenDoors$Hall" "crowds" "[LTokenDoors$Crowd;", Cond.fieldLink RX2 45 "TokenDoors$Crowd" "start" "I", Cond.fieldLink RX2 48 "TokenDoors$Crowd" "many" "I", Cond.fieldLink RX2 51 "TokenDoors$Crowd" "every" "I", Cond.fieldLink RX2 32 "TokenDoors$Hall" "tick" "I", Cond.fieldLink RX2 35 "TokenDoors$Hall" "let" "I", Cond.fieldLink RX2 38 "TokenDoors$Hall" "turned" "I", Cond.methodLink RX2 41 yX1_become, Cond.instanceMethod yX1_become, Cond.selects RX1 yX1_become yX1_become, Cond.initialized RX1, Cond.code yX1_become cX1_become 2 none, Cond.fieldLink RX1 9 "TokenDoors$Door" "kind" "I"]
def wsX7_keep_r2 : List Cond := [Cond.fieldLink RX1 15 "TokenDoors$Door" "depth" "I", Cond.fieldLink RX1 18 "TokenDoors$Door" "rate" "I", Cond.fieldLink RX1 21 "TokenDoors$Door" "holds" "I", Cond.methodLink RX2 54 yX0_make, Cond.instanceMethod yX0_make, Cond.selects RX0 yX0_make yX0_make, Cond.initialized RX0, Cond.code yX0_make cX0_make 4 none, Cond.fieldLink RX0 7 "TokenDoors$Crowd" "start" "I", Cond.fieldLink RX0 13 "TokenDoors$Crowd" "many" "I", Cond.fieldLink RX0 16 "TokenDoors$Crowd" "every" "I"]
def wsX7_keep : List Cond := .code yX7_keep cX7_keep 3 (some .int) :: ((wsX7_keep_r1 ++ wsX7_keep_r2) ++ wsX70 ++ wsX20 ++ wsX00 ++ wsX10)
def wsX7_back_r1 : List Cond := [Cond.fieldLink RX7 23 "TokenDoors" "kept" "[Z", Cond.fieldLink RX7 10 "TokenDoors" "now" "LTokenDoors$Hall;", Cond.fieldLink RX7 19 "TokenDoors" "images" "[LTokenDoors$Hall;", Cond.fieldLink RX7 97 "TokenDoors$Hall" "tick" "I", Cond.methodLink RX7 84 yX2_become, Cond.instanceMethod yX2_become, Cond.selects RX2 yX2_become yX2_become, Cond.initialized RX2, Cond.code yX2_become cX2_become 4 none, Cond.fieldLink RX2 25 "TokenDoors$Hall" "doorCount" "I", Cond.fieldLink RX2 11 "TokenDoors$Hall" "doors" "[LTokenDoors$Door;", Cond.fieldLink RX2 29 "TokenDoors$Hall" "crowdCount" "I", Cond.fieldLink RX2 19 "TokenDoors$Hall" "crowds" "[LTokenDoors$Crowd;", Cond.fieldLink RX2 45 "TokenDoors$Crowd" "start" "I", Cond.fieldLink RX2 48 "TokenDoors$Crowd" "many" "I", Cond.fieldLink RX2 51 "TokenDoors$Crowd" "every" "I", Cond.fieldLink RX2 32 "TokenDoors$Hall" "tick" "I", Cond.fieldLink RX2 35 "TokenDoors$Hall" "let" "I", Cond.fieldLink RX2 38 "TokenDoors$Hall" "turned" "I", Cond.methodLink RX2 41 yX1_become, Cond.instanceMethod yX1_become, Cond.selects RX1 yX1_become yX1_become, Cond.initialized RX1, Cond.code yX1_become cX1_become 2 none]
def wsX7_back_r2 : List Cond := [Cond.fieldLink RX1 9 "TokenDoors$Door" "kind" "I", Cond.fieldLink RX1 15 "TokenDoors$Door" "depth" "I", Cond.fieldLink RX1 18 "TokenDoors$Door" "rate" "I", Cond.fieldLink RX1 21 "TokenDoors$Door" "holds" "I", Cond.methodLink RX2 54 yX0_make, Cond.instanceMethod yX0_make, Cond.selects RX0 yX0_make yX0_make, Cond.initialized RX0, Cond.code yX0_make cX0_make 4 none, Cond.fieldLink RX0 7 "TokenDoors$Crowd" "start" "I", Cond.fieldLink RX0 13 "TokenDoors$Crowd" "many" "I", Cond.fieldLink RX0 16 "TokenDoors$Crowd" "every" "I"]
def wsX7_back : List Cond := .code yX7_back cX7_back 2 (some .int) :: ((wsX7_back_r1 ++ wsX7_back_r2) ++ wsX70 ++ wsX20 ++ wsX00 ++ wsX10)
def wsX7_isSheet : List Cond := .code yX7_isSheet cX7_isSheet 1 (some .boolean) :: ([])
def wsX7_isLane : List Cond := .code yX7_isLane cX7_isLane 1 (some .boolean) :: ([])
def wsX7_sheet : List Cond := .code yX7_sheet cX7_sheet 4 (some .int) :: ([.fieldLink RX7 52 "TokenDoors" "sheets" "[LTokenDoors$Sheet;", .methodLink RX7 255 yX7_isSheet, .static yX7_isSheet, .initialized RX7, .code yX7_isSheet cX7_isSheet 1 (some .boolean), .methodLink RX7 258 yX7_isLane, .static yX7_isLane, .code yX7_isLane cX7_isLane 1 (some .boolean), .methodLink RX7 261 yX4_renew, .instanceMethod yX4_renew, .selects RX4 yX4_renew yX4_renew, .initialized RX4, .code yX4_renew cX4_renew 3 none, .fieldLink RX4 15 "TokenDoors$Sheet" "laid" "Z", .fieldLink RX4 19 "TokenDoors$Sheet" "lane" "I", .fieldLink RX4 23 "TokenDoors$Sheet" "size" "I", .fieldLink RX4 9 "TokenDoors$Sheet" "cells" "[I", .methodLink RX4 26 yJ7_fill_53178, .static yJ7_fill_53178, .initialized RJ7, .code yJ7_fill_53178 cJ7_fill_53178 4 none] ++ wsX70 ++ wsX40)
def wsX7_lay : List Cond := .code yX7_lay cX7_lay 5 (some .int) :: ([.fieldLink RX7 52 "TokenDoors" "sheets" "[LTokenDoors$Sheet;", .methodLink RX7 255 yX7_isSheet, .static yX7_isSheet, .initialized RX7, .code yX7_isSheet cX7_isSheet 1 (some .boolean), .methodLink RX7 264 yX4_faultAt, .instanceMethod yX4_faultAt, .selects RX4 yX4_faultAt yX4_faultAt, .initialized RX4, .code yX4_faultAt cX4_faultAt 2 (some .int), .fieldLink RX4 15 "TokenDoors$Sheet" "laid" "Z", .fieldLink RX4 23 "TokenDoors$Sheet" "size" "I", .methodLink RX7 267 yX4_put, .instanceMethod yX4_put, .selects RX4 yX4_put yX4_put, .code yX4_put cX4_put 3 none, .fieldLink RX4 19 "TokenDoors$Sheet" "lane" "I", .fieldLink RX4 9 "TokenDoors$Sheet" "cells" "[I"] ++ wsX70 ++ wsX40)
def wsX7_comesFrom : List Cond := .code yX7_comesFrom cX7_comesFrom 6 (some .boolean) :: ([.fieldLink RX7 309 "TokenDoors$Sheet" "cells" "[I", .fieldLink RX7 10 "TokenDoors" "now" "LTokenDoors$Hall;", .methodLink RX7 156 yX7_isCrowd, .static yX7_isCrowd, .initialized RX7, .code yX7_isCrowd cX7_isCrowd 3 (some .boolean), .methodLink RX7 159 yX2_addCrowd, .instanceMethod yX2_addCrowd, .selects RX2 yX2_addCrowd yX2_addCrowd, .initialized RX2, .code yX2_addCrowd cX2_addCrowd 4 (some .boolean), .fieldLink RX2 29 "TokenDoors$Hall" "crowdCount" "I", .fieldLink RX2 19 "TokenDoors$Hall" "crowds" "[LTokenDoors$Crowd;", .methodLink RX2 54 yX0_make, .instanceMethod yX0_make, .selects RX0 yX0_make yX0_make, .initialized RX0, .code yX0_make cX0_make 4 none, .fieldLink RX0 7 "TokenDoors$Crowd" "start" "I", .fieldLink RX0 13 "TokenDoors$Crowd" "many" "I", .fieldLink RX0 16 "TokenDoors$Crowd" "every" "I"] ++ wsX40 ++ wsX70 ++ wsX20 ++ wsX00)
def wsX7_read_r1 : List Cond := [Cond.fieldLink RX7 52 "TokenDoors" "sheets" "[LTokenDoors$Sheet;", Cond.fieldLink RX7 10 "TokenDoors" "now" "LTokenDoors$Hall;", Cond.fieldLink RX7 94 "TokenDoors$Hall" "crowdCount" "I", Cond.fieldLink RX7 277 "TokenDoors" "readFault" "I", Cond.methodLink RX7 255 yX7_isSheet, Cond.static yX7_isSheet, Cond.initialized RX7, Cond.code yX7_isSheet cX7_isSheet 1 (some .boolean), Cond.methodLink RX7 258 yX7_isLane, Cond.static yX7_isLane, Cond.code yX7_isLane cX7_isLane 1 (some .boolean), Cond.methodLink RX7 270 yX4_faultInThree, Cond.instanceMethod yX4_faultInThree, Cond.selects RX4 yX4_faultInThree yX4_faultInThree, Cond.initialized RX4, Cond.code yX4_faultInThree cX4_faultInThree 4 (some .int), Cond.fieldLink RX4 15 "TokenDoors$Sheet" "laid" "Z", Cond.fieldLink RX4 19 "TokenDoors$Sheet" "lane" "I", Cond.methodLink RX4 32 yX4_faultAt, Cond.instanceMethod yX4_faultAt, Cond.selects RX4 yX4_faultAt yX4_faultAt, Cond.code yX4_faultAt cX4_faultAt 2 (some .int), Cond.fieldLink RX4 23 "TokenDoors$Sheet" "size" "I", Cond.methodLink RX7 273 yX7_comesFrom]
def wsX7_read_r2 : List Cond := [Cond.instanceMethod yX7_comesFrom, Cond.selects RX7 yX7_comesFrom yX7_comesFrom, Cond.code yX7_comesFrom cX7_comesFrom 6 (some .boolean), Cond.fieldLink RX7 309 "TokenDoors$Sheet" "cells" "[I", Cond.methodLink RX7 156 yX7_isCrowd, Cond.static yX7_isCrowd, Cond.code yX7_isCrowd cX7_isCrowd 3 (some .boolean), Cond.methodLink RX7 159 yX2_addCrowd, Cond.instanceMethod yX2_addCrowd, Cond.selects RX2 yX2_addCrowd yX2_addCrowd, Cond.initialized RX2, Cond.code yX2_addCrowd cX2_addCrowd 4 (some .boolean), Cond.fieldLink RX2 29 "TokenDoors$Hall" "crowdCount" "I", Cond.fieldLink RX2 19 "TokenDoors$Hall" "crowds" "[LTokenDoors$Crowd;", Cond.methodLink RX2 54 yX0_make, Cond.instanceMethod yX0_make, Cond.selects RX0 yX0_make yX0_make, Cond.initialized RX0, Cond.code yX0_make cX0_make 4 none, Cond.fieldLink RX0 7 "TokenDoors$Crowd" "start" "I", Cond.fieldLink RX0 13 "TokenDoors$Crowd" "many" "I", Cond.fieldLink RX0 16 "TokenDoors$Crowd" "every" "I"]
def wsX7_read : List Cond := .code yX7_read cX7_read 10 (some .int) :: ((wsX7_read_r1 ++ wsX7_read_r2) ++ wsX70 ++ wsX20 ++ wsX40 ++ wsX00)
def wsX7_torn : List Cond := .code yX7_torn cX7_torn 1 (some .int) :: ([.fieldLink RX7 277 "TokenDoors" "readFault" "I"] ++ wsX70)
def wsX7_imagesKept : List Cond := .code yX7_imagesKept cX7_imagesKept 3 (some .int) :: ([.fieldLink RX7 23 "TokenDoors" "kept" "[Z"] ++ wsX70)
def wsX7_count_r1 : List Cond := [Cond.fieldLink RX7 46 "TokenDoors" "seen" "LTokenDoors$Seen;", Cond.fieldLink RX7 88 "TokenDoors$Seen" "size" "I", Cond.fieldLink RX7 30 "TokenDoors" "tape" "LTokenDoors$Tape;", Cond.fieldLink RX7 70 "TokenDoors$Tape" "length" "I", Cond.fieldLink RX7 52 "TokenDoors" "sheets" "[LTokenDoors$Sheet;", Cond.fieldLink RX7 283 "TokenDoors$Sheet" "laid" "Z", Cond.fieldLink RX7 286 "TokenDoors$Sheet" "size" "I", Cond.fieldLink RX7 10 "TokenDoors" "now" "LTokenDoors$Hall;", Cond.methodLink RX7 280 yX7_imagesKept, Cond.instanceMethod yX7_imagesKept, Cond.selects RX7 yX7_imagesKept yX7_imagesKept, Cond.initialized RX7, Cond.code yX7_imagesKept cX7_imagesKept 3 (some .int), Cond.fieldLink RX7 23 "TokenDoors" "kept" "[Z", Cond.methodLink RX7 287 yX2_depthOfAll, Cond.instanceMethod yX2_depthOfAll, Cond.selects RX2 yX2_depthOfAll yX2_depthOfAll, Cond.initialized RX2, Cond.code yX2_depthOfAll cX2_depthOfAll 3 (some .int), Cond.fieldLink RX2 25 "TokenDoors$Hall" "doorCount" "I", Cond.fieldLink RX2 11 "TokenDoors$Hall" "doors" "[LTokenDoors$Door;", Cond.fieldLink RX2 98 "TokenDoors$Door" "depth" "I", Cond.methodLink RX7 290 yX2_manyOfAll, Cond.instanceMethod yX2_manyOfAll]
def wsX7_count_r2 : List Cond := [Cond.selects RX2 yX2_manyOfAll yX2_manyOfAll, Cond.code yX2_manyOfAll cX2_manyOfAll 3 (some .int), Cond.fieldLink RX2 29 "TokenDoors$Hall" "crowdCount" "I", Cond.fieldLink RX2 19 "TokenDoors$Hall" "crowds" "[LTokenDoors$Crowd;", Cond.fieldLink RX2 48 "TokenDoors$Crowd" "many" "I"]
def wsX7_count : List Cond := .code yX7_count cX7_count 2 (some .int) :: ((wsX7_count_r1 ++ wsX7_count_r2) ++ wsX70 ++ wsX30 ++ wsX50 ++ wsX40 ++ wsX20 ++ wsX10 ++ wsX00)
def wsX8_init : List Cond := .code yX8_init cX8_init 1 none :: ([.methodLink RX8 1 objectInit, .instanceMethod objectInit, .code objectInit ⟨#[0xb1]⟩ 1 none, .arrayClass .int, .fieldLink RX8 7 "TokenDoorsModel" "state" "[I", .fieldLink RX8 13 "TokenDoorsModel" "readPage" "[I", .fieldLink RX8 16 "TokenDoorsModel" "tape" "[I", .fieldLink RX8 19 "TokenDoorsModel" "ends" "[I", .fieldLink RX8 22 "TokenDoorsModel" "letters" "[I", .fieldLink RX8 25 "TokenDoorsModel" "opened" "I", .fieldLink RX8 29 "TokenDoorsModel" "turnedBy" "[I", .fieldLink RX8 32 "TokenDoorsModel" "seen" "[I", .fieldLink RX8 35 "TokenDoorsModel" "letBy" "[I", .arrayClass .boolean, .fieldLink RX8 38 "TokenDoorsModel" "isKept" "[Z", .fieldLink RX8 42 "TokenDoorsModel" "lanes" "[I", .fieldLink RX8 45 "TokenDoorsModel" "lengths" "[I", .fieldLink RX8 48 "TokenDoorsModel" "cells" "[I"] ++ wsX80)
def wsX8_in : List Cond := .code yX8_in cX8_in 6 (some .boolean) :: ([])
def wsX8_feed : List Cond := .code yX8_feed cX8_feed 2 (some .int) :: ([.constantLong RX8 51 (127), .fieldLink RX8 57 "TokenDoorsModel" "taped" "I", .fieldLink RX8 16 "TokenDoorsModel" "tape" "[I", .methodLink RX8 53 yX8_in, .static yX8_in, .initialized RX8, .code yX8_in cX8_in 6 (some .boolean)] ++ wsX80)
def wsX8_end : List Cond := .code yX8_end cX8_end 3 (some .int) :: ([.fieldLink RX8 57 "TokenDoorsModel" "taped" "I", .methodLink RX8 53 yX8_in, .static yX8_in, .initialized RX8, .code yX8_in cX8_in 6 (some .boolean)] ++ wsX80)
def wsX8_byteAt : List Cond := .code yX8_byteAt cX8_byteAt 2 (some .int) :: ([.fieldLink RX8 57 "TokenDoorsModel" "taped" "I", .fieldLink RX8 16 "TokenDoorsModel" "tape" "[I"] ++ wsX80)
def wsX8_fails : List Cond := .code yX8_fails cX8_fails 2 none :: ([.fieldLink RX8 60 "TokenDoorsModel" "broken" "I", .fieldLink RX8 63 "TokenDoorsModel" "here" "I", .fieldLink RX8 66 "TokenDoorsModel" "brokenAt" "I"] ++ wsX80)
def wsX8_nameHere : List Cond := .code yX8_nameHere cX8_nameHere 4 (some .int) :: ([.fieldLink RX8 69 "TokenDoorsModel" "token" "I", .fieldLink RX8 72 "TokenDoorsModel" "spot" "I", .fieldLink RX8 63 "TokenDoorsModel" "here" "I", .fieldLink RX8 19 "TokenDoorsModel" "ends" "[I", .fieldLink RX8 22 "TokenDoorsModel" "letters" "[I", .methodLink RX8 75 yX8_byteAt, .instanceMethod yX8_byteAt, .selects RX8 yX8_byteAt yX8_byteAt, .initialized RX8, .code yX8_byteAt cX8_byteAt 2 (some .int), .fieldLink RX8 57 "TokenDoorsModel" "taped" "I", .fieldLink RX8 16 "TokenDoorsModel" "tape" "[I"] ++ wsX80)
def wsX8_step : List Cond := .code yX8_step cX8_step 2 none :: ([.fieldLink RX8 60 "TokenDoorsModel" "broken" "I", .fieldLink RX8 72 "TokenDoorsModel" "spot" "I", .fieldLink RX8 63 "TokenDoorsModel" "here" "I", .fieldLink RX8 79 "TokenDoorsModel" "value" "I", .fieldLink RX8 69 "TokenDoorsModel" "token" "I", .constantLong RX8 82 (97), .constantLong RX8 84 (122), .constantLong RX8 86 (48), .constantLong RX8 88 (57), .methodLink RX8 75 yX8_byteAt, .instanceMethod yX8_byteAt, .selects RX8 yX8_byteAt yX8_byteAt, .initialized RX8, .code yX8_byteAt cX8_byteAt 2 (some .int), .fieldLink RX8 57 "TokenDoorsModel" "taped" "I", .fieldLink RX8 16 "TokenDoorsModel" "tape" "[I", .methodLink RX8 53 yX8_in, .static yX8_in, .code yX8_in cX8_in 6 (some .boolean), .methodLink RX8 90 yX8_fails, .instanceMethod yX8_fails, .selects RX8 yX8_fails yX8_fails, .code yX8_fails cX8_fails 2 none, .fieldLink RX8 66 "TokenDoorsModel" "brokenAt" "I"] ++ wsX80)
def wsX8_number_r1 : List Cond := [Cond.fieldLink RX8 60 "TokenDoorsModel" "broken" "I", Cond.fieldLink RX8 69 "TokenDoorsModel" "token" "I", Cond.fieldLink RX8 79 "TokenDoorsModel" "value" "I", Cond.methodLink RX8 90 yX8_fails, Cond.instanceMethod yX8_fails, Cond.selects RX8 yX8_fails yX8_fails, Cond.initialized RX8, Cond.code yX8_fails cX8_fails 2 none, Cond.fieldLink RX8 63 "TokenDoorsModel" "here" "I", Cond.fieldLink RX8 66 "TokenDoorsModel" "brokenAt" "I", Cond.methodLink RX8 53 yX8_in, Cond.static yX8_in, Cond.code yX8_in cX8_in 6 (some .boolean), Cond.methodLink RX8 94 yX8_step, Cond.instanceMethod yX8_step, Cond.selects RX8 yX8_step yX8_step, Cond.code yX8_step cX8_step 2 none, Cond.fieldLink RX8 72 "TokenDoorsModel" "spot" "I", Cond.constantLong RX8 82 (97), Cond.constantLong RX8 84 (122), Cond.constantLong RX8 86 (48), Cond.constantLong RX8 88 (57), Cond.methodLink RX8 75 yX8_byteAt, Cond.instanceMethod yX8_byteAt]
def wsX8_number_r2 : List Cond := [Cond.selects RX8 yX8_byteAt yX8_byteAt, Cond.code yX8_byteAt cX8_byteAt 2 (some .int), Cond.fieldLink RX8 57 "TokenDoorsModel" "taped" "I", Cond.fieldLink RX8 16 "TokenDoorsModel" "tape" "[I"]
def wsX8_number : List Cond := .code yX8_number cX8_number 4 (some .int) :: ((wsX8_number_r1 ++ wsX8_number_r2) ++ wsX80)
def wsX8_readMore_r1 : List Cond := [Cond.fieldLink RX8 13 "TokenDoorsModel" "readPage" "[I", Cond.methodLink RX8 97 yX8_number, Cond.instanceMethod yX8_number, Cond.selects RX8 yX8_number yX8_number, Cond.initialized RX8, Cond.code yX8_number cX8_number 4 (some .int), Cond.fieldLink RX8 60 "TokenDoorsModel" "broken" "I", Cond.fieldLink RX8 69 "TokenDoorsModel" "token" "I", Cond.fieldLink RX8 79 "TokenDoorsModel" "value" "I", Cond.methodLink RX8 90 yX8_fails, Cond.instanceMethod yX8_fails, Cond.selects RX8 yX8_fails yX8_fails, Cond.code yX8_fails cX8_fails 2 none, Cond.fieldLink RX8 63 "TokenDoorsModel" "here" "I", Cond.fieldLink RX8 66 "TokenDoorsModel" "brokenAt" "I", Cond.methodLink RX8 53 yX8_in, Cond.static yX8_in, Cond.code yX8_in cX8_in 6 (some .boolean), Cond.methodLink RX8 94 yX8_step, Cond.instanceMethod yX8_step, Cond.selects RX8 yX8_step yX8_step, Cond.code yX8_step cX8_step 2 none, Cond.fieldLink RX8 72 "TokenDoorsModel" "spot" "I", Cond.constantLong RX8 82 (97)]
def wsX8_readMore_r2 : List Cond := [Cond.constantLong RX8 84 (122), Cond.constantLong RX8 86 (48), Cond.constantLong RX8 88 (57), Cond.methodLink RX8 75 yX8_byteAt, Cond.instanceMethod yX8_byteAt, Cond.selects RX8 yX8_byteAt yX8_byteAt, Cond.code yX8_byteAt cX8_byteAt 2 (some .int), Cond.fieldLink RX8 57 "TokenDoorsModel" "taped" "I", Cond.fieldLink RX8 16 "TokenDoorsModel" "tape" "[I"]
def wsX8_readMore : List Cond := .code yX8_readMore cX8_readMore 3 none :: ((wsX8_readMore_r1 ++ wsX8_readMore_r2) ++ wsX80)
def wsX8_readLine_r1 : List Cond := [Cond.constantLong RX8 105 (4), Cond.fieldLink RX8 13 "TokenDoorsModel" "readPage" "[I", Cond.fieldLink RX8 60 "TokenDoorsModel" "broken" "I", Cond.fieldLink RX8 69 "TokenDoorsModel" "token" "I", Cond.methodLink RX8 101 yX8_nameHere, Cond.instanceMethod yX8_nameHere, Cond.selects RX8 yX8_nameHere yX8_nameHere, Cond.initialized RX8, Cond.code yX8_nameHere cX8_nameHere 4 (some .int), Cond.fieldLink RX8 72 "TokenDoorsModel" "spot" "I", Cond.fieldLink RX8 63 "TokenDoorsModel" "here" "I", Cond.fieldLink RX8 19 "TokenDoorsModel" "ends" "[I", Cond.fieldLink RX8 22 "TokenDoorsModel" "letters" "[I", Cond.methodLink RX8 75 yX8_byteAt, Cond.instanceMethod yX8_byteAt, Cond.selects RX8 yX8_byteAt yX8_byteAt, Cond.code yX8_byteAt cX8_byteAt 2 (some .int), Cond.fieldLink RX8 57 "TokenDoorsModel" "taped" "I", Cond.fieldLink RX8 16 "TokenDoorsModel" "tape" "[I", Cond.methodLink RX8 53 yX8_in, Cond.static yX8_in, Cond.code yX8_in cX8_in 6 (some .boolean), Cond.methodLink RX8 90 yX8_fails, Cond.instanceMethod yX8_fails]
def wsX8_readLine_r2 : List Cond := [Cond.selects RX8 yX8_fails yX8_fails, Cond.code yX8_fails cX8_fails 2 none, Cond.fieldLink RX8 66 "TokenDoorsModel" "brokenAt" "I", Cond.methodLink RX8 94 yX8_step, Cond.instanceMethod yX8_step, Cond.selects RX8 yX8_step yX8_step, Cond.code yX8_step cX8_step 2 none, Cond.fieldLink RX8 79 "TokenDoorsModel" "value" "I", Cond.constantLong RX8 82 (97), Cond.constantLong RX8 84 (122), Cond.constantLong RX8 86 (48), Cond.constantLong RX8 88 (57), Cond.methodLink RX8 107 yX8_readMore, Cond.instanceMethod yX8_readMore, Cond.selects RX8 yX8_readMore yX8_readMore, Cond.code yX8_readMore cX8_readMore 3 none, Cond.methodLink RX8 97 yX8_number, Cond.instanceMethod yX8_number, Cond.selects RX8 yX8_number yX8_number, Cond.code yX8_number cX8_number 4 (some .int)]
def wsX8_readLine : List Cond := .code yX8_readLine cX8_readLine 2 none :: ((wsX8_readLine_r1 ++ wsX8_readLine_r2) ++ wsX80)
def wsX8_text_r1 : List Cond := [Cond.fieldLink RX8 60 "TokenDoorsModel" "broken" "I", Cond.fieldLink RX8 72 "TokenDoorsModel" "spot" "I", Cond.fieldLink RX8 13 "TokenDoorsModel" "readPage" "[I", Cond.fieldLink RX8 69 "TokenDoorsModel" "token" "I", Cond.fieldLink RX8 57 "TokenDoorsModel" "taped" "I", Cond.fieldLink RX8 113 "TokenDoorsModel" "fault" "I", Cond.fieldLink RX8 66 "TokenDoorsModel" "brokenAt" "I", Cond.fieldLink RX8 7 "TokenDoorsModel" "state" "[I", Cond.fieldLink RX8 116 "TokenDoorsModel" "seenMany" "I", Cond.fieldLink RX8 38 "TokenDoorsModel" "isKept" "[Z", Cond.methodLink RX8 94 yX8_step, Cond.instanceMethod yX8_step, Cond.selects RX8 yX8_step yX8_step, Cond.initialized RX8, Cond.code yX8_step cX8_step 2 none, Cond.fieldLink RX8 63 "TokenDoorsModel" "here" "I", Cond.fieldLink RX8 79 "TokenDoorsModel" "value" "I", Cond.constantLong RX8 82 (97), Cond.constantLong RX8 84 (122), Cond.constantLong RX8 86 (48), Cond.constantLong RX8 88 (57), Cond.methodLink RX8 75 yX8_byteAt, Cond.instanceMethod yX8_byteAt, Cond.selects RX8 yX8_byteAt yX8_byteAt]
def wsX8_text_r2 : List Cond := [Cond.code yX8_byteAt cX8_byteAt 2 (some .int), Cond.fieldLink RX8 16 "TokenDoorsModel" "tape" "[I", Cond.methodLink RX8 53 yX8_in, Cond.static yX8_in, Cond.code yX8_in cX8_in 6 (some .boolean), Cond.methodLink RX8 90 yX8_fails, Cond.instanceMethod yX8_fails, Cond.selects RX8 yX8_fails yX8_fails, Cond.code yX8_fails cX8_fails 2 none, Cond.methodLink RX8 110 yX8_readLine, Cond.instanceMethod yX8_readLine, Cond.selects RX8 yX8_readLine yX8_readLine, Cond.code yX8_readLine cX8_readLine 2 none, Cond.constantLong RX8 105 (4), Cond.methodLink RX8 101 yX8_nameHere, Cond.instanceMethod yX8_nameHere, Cond.selects RX8 yX8_nameHere yX8_nameHere, Cond.code yX8_nameHere cX8_nameHere 4 (some .int), Cond.fieldLink RX8 19 "TokenDoorsModel" "ends" "[I", Cond.fieldLink RX8 22 "TokenDoorsModel" "letters" "[I", Cond.methodLink RX8 107 yX8_readMore, Cond.instanceMethod yX8_readMore, Cond.selects RX8 yX8_readMore yX8_readMore, Cond.code yX8_readMore cX8_readMore 3 none]
def wsX8_text_r3 : List Cond := [Cond.methodLink RX8 97 yX8_number, Cond.instanceMethod yX8_number, Cond.selects RX8 yX8_number yX8_number, Cond.code yX8_number cX8_number 4 (some .int)]
def wsX8_text : List Cond := .code yX8_text cX8_text 3 (some .int) :: ((wsX8_text_r1 ++ (wsX8_text_r2 ++ wsX8_text_r3)) ++ wsX80)
def wsX8_fault : List Cond := .code yX8_fault cX8_fault 1 (some .int) :: ([.fieldLink RX8 113 "TokenDoorsModel" "fault" "I"] ++ wsX80)
def wsX8_isDoor : List Cond := .code yX8_isDoor cX8_isDoor 2 (some .boolean) :: ([.fieldLink RX8 7 "TokenDoorsModel" "state" "[I", .methodLink RX8 53 yX8_in, .static yX8_in, .initialized RX8, .code yX8_in cX8_in 6 (some .boolean)] ++ wsX80)
def wsX8_isCrowd : List Cond := .code yX8_isCrowd cX8_isCrowd 2 (some .boolean) :: ([.fieldLink RX8 7 "TokenDoorsModel" "state" "[I", .methodLink RX8 53 yX8_in, .static yX8_in, .initialized RX8, .code yX8_in cX8_in 6 (some .boolean)] ++ wsX80)
def wsX8_isLong : List Cond := .code yX8_isLong cX8_isLong 1 (some .boolean) :: ([.constantLong RX8 119 (100), .methodLink RX8 53 yX8_in, .static yX8_in, .initialized RX8, .code yX8_in cX8_in 6 (some .boolean)])
def wsX8_roomOn : List Cond := .code yX8_roomOn cX8_roomOn 4 (some .int) :: ([.fieldLink RX8 7 "TokenDoorsModel" "state" "[I"] ++ wsX80)
def wsX8_starts : List Cond := .code yX8_starts cX8_starts 2 none :: ([.fieldLink RX8 121 "TokenDoorsModel" "let" "I", .fieldLink RX8 124 "TokenDoorsModel" "turned" "I", .fieldLink RX8 127 "TokenDoorsModel" "badTicks" "I", .fieldLink RX8 130 "TokenDoorsModel" "worstTick" "I", .fieldLink RX8 29 "TokenDoorsModel" "turnedBy" "[I"] ++ wsX80)
def wsX8_passOn : List Cond := .code yX8_passOn cX8_passOn 3 (some .int) :: ([.fieldLink RX8 7 "TokenDoorsModel" "state" "[I", .fieldLink RX8 25 "TokenDoorsModel" "opened" "I", .fieldLink RX8 124 "TokenDoorsModel" "turned" "I", .fieldLink RX8 29 "TokenDoorsModel" "turnedBy" "[I", .constant RX8 136 (99999), .fieldLink RX8 121 "TokenDoorsModel" "let" "I", .methodLink RX8 133 yX8_roomOn, .instanceMethod yX8_roomOn, .selects RX8 yX8_roomOn yX8_roomOn, .initialized RX8, .code yX8_roomOn cX8_roomOn 4 (some .int)] ++ wsX80)
def wsX8_comeOn : List Cond := .code yX8_comeOn cX8_comeOn 6 (some .int) :: ([.fieldLink RX8 7 "TokenDoorsModel" "state" "[I"] ++ wsX80)
def wsX8_settlesOn : List Cond := .code yX8_settlesOn cX8_settlesOn 7 none :: ([.fieldLink RX8 7 "TokenDoorsModel" "state" "[I"] ++ wsX80)
def wsX8_tickOn : List Cond := .code yX8_tickOn cX8_tickOn 6 (some .int) :: ([.fieldLink RX8 121 "TokenDoorsModel" "let" "I", .fieldLink RX8 124 "TokenDoorsModel" "turned" "I", .fieldLink RX8 7 "TokenDoorsModel" "state" "[I", .fieldLink RX8 25 "TokenDoorsModel" "opened" "I", .fieldLink RX8 127 "TokenDoorsModel" "badTicks" "I", .fieldLink RX8 130 "TokenDoorsModel" "worstTick" "I", .methodLink RX8 137 yX8_passOn, .instanceMethod yX8_passOn, .selects RX8 yX8_passOn yX8_passOn, .initialized RX8, .code yX8_passOn cX8_passOn 3 (some .int), .fieldLink RX8 29 "TokenDoorsModel" "turnedBy" "[I", .constant RX8 136 (99999), .methodLink RX8 133 yX8_roomOn, .instanceMethod yX8_roomOn, .selects RX8 yX8_roomOn yX8_roomOn, .code yX8_roomOn cX8_roomOn 4 (some .int), .methodLink RX8 140 yX8_settlesOn, .instanceMethod yX8_settlesOn, .selects RX8 yX8_settlesOn yX8_settlesOn, .code yX8_settlesOn cX8_settlesOn 7 none] ++ wsX80)
def wsX8_goesOn_r1 : List Cond := [Cond.methodLink RX8 144 yX8_comeOn, Cond.instanceMethod yX8_comeOn, Cond.selects RX8 yX8_comeOn yX8_comeOn, Cond.initialized RX8, Cond.code yX8_comeOn cX8_comeOn 6 (some .int), Cond.fieldLink RX8 7 "TokenDoorsModel" "state" "[I", Cond.methodLink RX8 147 yX8_tickOn, Cond.instanceMethod yX8_tickOn, Cond.selects RX8 yX8_tickOn yX8_tickOn, Cond.code yX8_tickOn cX8_tickOn 6 (some .int), Cond.fieldLink RX8 121 "TokenDoorsModel" "let" "I", Cond.fieldLink RX8 124 "TokenDoorsModel" "turned" "I", Cond.fieldLink RX8 25 "TokenDoorsModel" "opened" "I", Cond.fieldLink RX8 127 "TokenDoorsModel" "badTicks" "I", Cond.fieldLink RX8 130 "TokenDoorsModel" "worstTick" "I", Cond.methodLink RX8 137 yX8_passOn, Cond.instanceMethod yX8_passOn, Cond.selects RX8 yX8_passOn yX8_passOn, Cond.code yX8_passOn cX8_passOn 3 (some .int), Cond.fieldLink RX8 29 "TokenDoorsModel" "turnedBy" "[I", Cond.constant RX8 136 (99999), Cond.methodLink RX8 133 yX8_roomOn, Cond.instanceMethod yX8_roomOn, Cond.selects RX8 yX8_roomOn yX8_roomOn]
def wsX8_goesOn_r2 : List Cond := [Cond.code yX8_roomOn cX8_roomOn 4 (some .int), Cond.methodLink RX8 140 yX8_settlesOn, Cond.instanceMethod yX8_settlesOn, Cond.selects RX8 yX8_settlesOn yX8_settlesOn, Cond.code yX8_settlesOn cX8_settlesOn 7 none]
def wsX8_goesOn : List Cond := .code yX8_goesOn cX8_goesOn 2 (some .int) :: ((wsX8_goesOn_r1 ++ wsX8_goesOn_r2) ++ wsX80)
def wsX8_holdOn : List Cond := .code yX8_holdOn cX8_holdOn 4 (some .int) :: ([.fieldLink RX8 7 "TokenDoorsModel" "state" "[I"] ++ wsX80)
def wsX8_rule : List Cond := .code yX8_rule cX8_rule 4 (some .int) :: ([.fieldLink RX8 7 "TokenDoorsModel" "state" "[I", .methodLink RX8 133 yX8_roomOn, .instanceMethod yX8_roomOn, .selects RX8 yX8_roomOn yX8_roomOn, .initialized RX8, .code yX8_roomOn cX8_roomOn 4 (some .int), .methodLink RX8 144 yX8_comeOn, .instanceMethod yX8_comeOn, .selects RX8 yX8_comeOn yX8_comeOn, .code yX8_comeOn cX8_comeOn 6 (some .int)] ++ wsX80)
def wsX8_door : List Cond := .code yX8_door cX8_door 3 (some .int) :: ([.constantLong RX8 105 (4), .fieldLink RX8 7 "TokenDoorsModel" "state" "[I", .methodLink RX8 150 yX8_isDoor, .instanceMethod yX8_isDoor, .selects RX8 yX8_isDoor yX8_isDoor, .initialized RX8, .code yX8_isDoor cX8_isDoor 2 (some .boolean), .methodLink RX8 53 yX8_in, .static yX8_in, .code yX8_in cX8_in 6 (some .boolean), .methodLink RX8 133 yX8_roomOn, .instanceMethod yX8_roomOn, .selects RX8 yX8_roomOn yX8_roomOn, .code yX8_roomOn cX8_roomOn 4 (some .int)] ++ wsX80)
def wsX8_crowd : List Cond := .code yX8_crowd cX8_crowd 3 (some .int) :: ([.constantLong RX8 157 (2), .fieldLink RX8 7 "TokenDoorsModel" "state" "[I", .methodLink RX8 154 yX8_isCrowd, .instanceMethod yX8_isCrowd, .selects RX8 yX8_isCrowd yX8_isCrowd, .initialized RX8, .code yX8_isCrowd cX8_isCrowd 2 (some .boolean), .methodLink RX8 53 yX8_in, .static yX8_in, .code yX8_in cX8_in 6 (some .boolean)] ++ wsX80)
def wsX8_deepOn : List Cond := .code yX8_deepOn cX8_deepOn 4 none :: ([.fieldLink RX8 7 "TokenDoorsModel" "state" "[I"] ++ wsX80)
def wsX8_alter : List Cond := .code yX8_alter cX8_alter 6 (some .int) :: ([.constantLong RX8 159 (3), .constantLong RX8 161 (9), .constantLong RX8 157 (2), .fieldLink RX8 7 "TokenDoorsModel" "state" "[I", .methodLink RX8 53 yX8_in, .static yX8_in, .initialized RX8, .code yX8_in cX8_in 6 (some .boolean), .methodLink RX8 150 yX8_isDoor, .instanceMethod yX8_isDoor, .selects RX8 yX8_isDoor yX8_isDoor, .code yX8_isDoor cX8_isDoor 2 (some .boolean), .methodLink RX8 163 yX8_deepOn, .instanceMethod yX8_deepOn, .selects RX8 yX8_deepOn yX8_deepOn, .code yX8_deepOn cX8_deepOn 4 none] ++ wsX80)
def wsX8_hang : List Cond := .code yX8_hang cX8_hang 5 (some .int) :: ([.constantLong RX8 159 (3), .constantLong RX8 161 (9), .fieldLink RX8 7 "TokenDoorsModel" "state" "[I", .methodLink RX8 53 yX8_in, .static yX8_in, .initialized RX8, .code yX8_in cX8_in 6 (some .boolean)] ++ wsX80)
def wsX8_puts : List Cond := .code yX8_puts cX8_puts 5 (some .int) :: ([.fieldLink RX8 7 "TokenDoorsModel" "state" "[I"] ++ wsX80)
def wsX8_cut : List Cond := .code yX8_cut cX8_cut 2 (some .int) :: ([.fieldLink RX8 7 "TokenDoorsModel" "state" "[I", .methodLink RX8 53 yX8_in, .static yX8_in, .initialized RX8, .code yX8_in cX8_in 6 (some .boolean), .methodLink RX8 167 yX8_puts, .instanceMethod yX8_puts, .selects RX8 yX8_puts yX8_puts, .code yX8_puts cX8_puts 5 (some .int)] ++ wsX80)
def wsX8_comes : List Cond := .code yX8_comes cX8_comes 5 (some .int) :: ([.constantLong RX8 171 (99), .constantLong RX8 161 (9), .fieldLink RX8 7 "TokenDoorsModel" "state" "[I", .methodLink RX8 53 yX8_in, .static yX8_in, .initialized RX8, .code yX8_in cX8_in 6 (some .boolean)] ++ wsX80)
def wsX8_come : List Cond := .code yX8_come cX8_come 4 (some .int) :: ([.methodLink RX8 173 yX8_comes, .instanceMethod yX8_comes, .selects RX8 yX8_comes yX8_comes, .initialized RX8, .code yX8_comes cX8_comes 5 (some .int), .constantLong RX8 171 (99), .constantLong RX8 161 (9), .fieldLink RX8 7 "TokenDoorsModel" "state" "[I", .methodLink RX8 53 yX8_in, .static yX8_in, .code yX8_in cX8_in 6 (some .boolean)] ++ wsX80)
def wsX8_leave : List Cond := .code yX8_leave cX8_leave 2 (some .int) :: ([.fieldLink RX8 7 "TokenDoorsModel" "state" "[I", .methodLink RX8 53 yX8_in, .static yX8_in, .initialized RX8, .code yX8_in cX8_in 6 (some .boolean), .methodLink RX8 167 yX8_puts, .instanceMethod yX8_puts, .selects RX8 yX8_puts yX8_puts, .code yX8_puts cX8_puts 5 (some .int)] ++ wsX80)
def wsX8_pass : List Cond := .code yX8_pass cX8_pass 1 (some .int) :: ([.methodLink RX8 137 yX8_passOn, .instanceMethod yX8_passOn, .selects RX8 yX8_passOn yX8_passOn, .initialized RX8, .code yX8_passOn cX8_passOn 3 (some .int), .fieldLink RX8 7 "TokenDoorsModel" "state" "[I", .fieldLink RX8 25 "TokenDoorsModel" "opened" "I", .fieldLink RX8 124 "TokenDoorsModel" "turned" "I", .fieldLink RX8 29 "TokenDoorsModel" "turnedBy" "[I", .constant RX8 136 (99999), .fieldLink RX8 121 "TokenDoorsModel" "let" "I", .methodLink RX8 133 yX8_roomOn, .instanceMethod yX8_roomOn, .selects RX8 yX8_roomOn yX8_roomOn, .code yX8_roomOn cX8_roomOn 4 (some .int)] ++ wsX80)
def wsX8_ticks_r1 : List Cond := [Cond.fieldLink RX8 7 "TokenDoorsModel" "state" "[I", Cond.fieldLink RX8 121 "TokenDoorsModel" "let" "I", Cond.methodLink RX8 177 yX8_isLong, Cond.static yX8_isLong, Cond.initialized RX8, Cond.code yX8_isLong cX8_isLong 1 (some .boolean), Cond.constantLong RX8 119 (100), Cond.methodLink RX8 53 yX8_in, Cond.static yX8_in, Cond.code yX8_in cX8_in 6 (some .boolean), Cond.methodLink RX8 180 yX8_starts, Cond.instanceMethod yX8_starts, Cond.selects RX8 yX8_starts yX8_starts, Cond.code yX8_starts cX8_starts 2 none, Cond.fieldLink RX8 124 "TokenDoorsModel" "turned" "I", Cond.fieldLink RX8 127 "TokenDoorsModel" "badTicks" "I", Cond.fieldLink RX8 130 "TokenDoorsModel" "worstTick" "I", Cond.fieldLink RX8 29 "TokenDoorsModel" "turnedBy" "[I", Cond.methodLink RX8 183 yX8_goesOn, Cond.instanceMethod yX8_goesOn, Cond.selects RX8 yX8_goesOn yX8_goesOn, Cond.code yX8_goesOn cX8_goesOn 2 (some .int), Cond.methodLink RX8 144 yX8_comeOn, Cond.instanceMethod yX8_comeOn]
def wsX8_ticks_r2 : List Cond := [Cond.selects RX8 yX8_comeOn yX8_comeOn, Cond.code yX8_comeOn cX8_comeOn 6 (some .int), Cond.methodLink RX8 147 yX8_tickOn, Cond.instanceMethod yX8_tickOn, Cond.selects RX8 yX8_tickOn yX8_tickOn, Cond.code yX8_tickOn cX8_tickOn 6 (some .int), Cond.fieldLink RX8 25 "TokenDoorsModel" "opened" "I", Cond.methodLink RX8 137 yX8_passOn, Cond.instanceMethod yX8_passOn, Cond.selects RX8 yX8_passOn yX8_passOn, Cond.code yX8_passOn cX8_passOn 3 (some .int), Cond.constant RX8 136 (99999), Cond.methodLink RX8 133 yX8_roomOn, Cond.instanceMethod yX8_roomOn, Cond.selects RX8 yX8_roomOn yX8_roomOn, Cond.code yX8_roomOn cX8_roomOn 4 (some .int), Cond.methodLink RX8 140 yX8_settlesOn, Cond.instanceMethod yX8_settlesOn, Cond.selects RX8 yX8_settlesOn yX8_settlesOn, Cond.code yX8_settlesOn cX8_settlesOn 7 none]
def wsX8_ticks : List Cond := .code yX8_ticks cX8_ticks 3 (some .int) :: ((wsX8_ticks_r1 ++ wsX8_ticks_r2) ++ wsX80)
def wsX8_copies : List Cond := .code yX8_copies cX8_copies 4 none :: ([.fieldLink RX8 7 "TokenDoorsModel" "state" "[I"] ++ wsX80)
def wsX8_ticksGo_r1 : List Cond := [Cond.fieldLink RX8 121 "TokenDoorsModel" "let" "I", Cond.methodLink RX8 186 yX8_copies, Cond.instanceMethod yX8_copies, Cond.selects RX8 yX8_copies yX8_copies, Cond.initialized RX8, Cond.code yX8_copies cX8_copies 4 none, Cond.fieldLink RX8 7 "TokenDoorsModel" "state" "[I", Cond.methodLink RX8 180 yX8_starts, Cond.instanceMethod yX8_starts, Cond.selects RX8 yX8_starts yX8_starts, Cond.code yX8_starts cX8_starts 2 none, Cond.fieldLink RX8 124 "TokenDoorsModel" "turned" "I", Cond.fieldLink RX8 127 "TokenDoorsModel" "badTicks" "I", Cond.fieldLink RX8 130 "TokenDoorsModel" "worstTick" "I", Cond.fieldLink RX8 29 "TokenDoorsModel" "turnedBy" "[I", Cond.methodLink RX8 183 yX8_goesOn, Cond.instanceMethod yX8_goesOn, Cond.selects RX8 yX8_goesOn yX8_goesOn, Cond.code yX8_goesOn cX8_goesOn 2 (some .int), Cond.methodLink RX8 144 yX8_comeOn, Cond.instanceMethod yX8_comeOn, Cond.selects RX8 yX8_comeOn yX8_comeOn, Cond.code yX8_comeOn cX8_comeOn 6 (some .int), Cond.methodLink RX8 147 yX8_tickOn]
def wsX8_ticksGo_r2 : List Cond := [Cond.instanceMethod yX8_tickOn, Cond.selects RX8 yX8_tickOn yX8_tickOn, Cond.code yX8_tickOn cX8_tickOn 6 (some .int), Cond.fieldLink RX8 25 "TokenDoorsModel" "opened" "I", Cond.methodLink RX8 137 yX8_passOn, Cond.instanceMethod yX8_passOn, Cond.selects RX8 yX8_passOn yX8_passOn, Cond.code yX8_passOn cX8_passOn 3 (some .int), Cond.constant RX8 136 (99999), Cond.methodLink RX8 133 yX8_roomOn, Cond.instanceMethod yX8_roomOn, Cond.selects RX8 yX8_roomOn yX8_roomOn, Cond.code yX8_roomOn cX8_roomOn 4 (some .int), Cond.methodLink RX8 140 yX8_settlesOn, Cond.instanceMethod yX8_settlesOn, Cond.selects RX8 yX8_settlesOn yX8_settlesOn, Cond.code yX8_settlesOn cX8_settlesOn 7 none]
def wsX8_ticksGo : List Cond := .code yX8_ticksGo cX8_ticksGo 4 (some .int) :: ((wsX8_ticksGo_r1 ++ wsX8_ticksGo_r2) ++ wsX80)
def wsX8_runs_r1 : List Cond := [Cond.constantLong RX8 105 (4), Cond.fieldLink RX8 124 "TokenDoorsModel" "turned" "I", Cond.fieldLink RX8 127 "TokenDoorsModel" "badTicks" "I", Cond.fieldLink RX8 130 "TokenDoorsModel" "worstTick" "I", Cond.methodLink RX8 177 yX8_isLong, Cond.static yX8_isLong, Cond.initialized RX8, Cond.code yX8_isLong cX8_isLong 1 (some .boolean), Cond.constantLong RX8 119 (100), Cond.methodLink RX8 53 yX8_in, Cond.static yX8_in, Cond.code yX8_in cX8_in 6 (some .boolean), Cond.methodLink RX8 189 yX8_ticksGo, Cond.instanceMethod yX8_ticksGo, Cond.selects RX8 yX8_ticksGo yX8_ticksGo, Cond.code yX8_ticksGo cX8_ticksGo 4 (some .int), Cond.fieldLink RX8 121 "TokenDoorsModel" "let" "I", Cond.methodLink RX8 186 yX8_copies, Cond.instanceMethod yX8_copies, Cond.selects RX8 yX8_copies yX8_copies, Cond.code yX8_copies cX8_copies 4 none, Cond.fieldLink RX8 7 "TokenDoorsModel" "state" "[I", Cond.methodLink RX8 180 yX8_starts, Cond.instanceMethod yX8_starts]
def wsX8_runs_r2 : List Cond := [Cond.selects RX8 yX8_starts yX8_starts, Cond.code yX8_starts cX8_starts 2 none, Cond.fieldLink RX8 29 "TokenDoorsModel" "turnedBy" "[I", Cond.methodLink RX8 183 yX8_goesOn, Cond.instanceMethod yX8_goesOn, Cond.selects RX8 yX8_goesOn yX8_goesOn, Cond.code yX8_goesOn cX8_goesOn 2 (some .int), Cond.methodLink RX8 144 yX8_comeOn, Cond.instanceMethod yX8_comeOn, Cond.selects RX8 yX8_comeOn yX8_comeOn, Cond.code yX8_comeOn cX8_comeOn 6 (some .int), Cond.methodLink RX8 147 yX8_tickOn, Cond.instanceMethod yX8_tickOn, Cond.selects RX8 yX8_tickOn yX8_tickOn, Cond.code yX8_tickOn cX8_tickOn 6 (some .int), Cond.fieldLink RX8 25 "TokenDoorsModel" "opened" "I", Cond.methodLink RX8 137 yX8_passOn, Cond.instanceMethod yX8_passOn, Cond.selects RX8 yX8_passOn yX8_passOn, Cond.code yX8_passOn cX8_passOn 3 (some .int), Cond.constant RX8 136 (99999), Cond.methodLink RX8 133 yX8_roomOn, Cond.instanceMethod yX8_roomOn, Cond.selects RX8 yX8_roomOn yX8_roomOn]
def wsX8_runs_r3 : List Cond := [Cond.code yX8_roomOn cX8_roomOn 4 (some .int), Cond.methodLink RX8 140 yX8_settlesOn, Cond.instanceMethod yX8_settlesOn, Cond.selects RX8 yX8_settlesOn yX8_settlesOn, Cond.code yX8_settlesOn cX8_settlesOn 7 none, Cond.methodLink RX8 192 yX8_holdOn, Cond.instanceMethod yX8_holdOn, Cond.selects RX8 yX8_holdOn yX8_holdOn, Cond.code yX8_holdOn cX8_holdOn 4 (some .int)]
def wsX8_runs : List Cond := .code yX8_runs cX8_runs 4 (some .int) :: ((wsX8_runs_r1 ++ (wsX8_runs_r2 ++ wsX8_runs_r3)) ++ wsX80)
def wsX8_ahead_r1 : List Cond := [Cond.fieldLink RX8 7 "TokenDoorsModel" "state" "[I", Cond.methodLink RX8 150 yX8_isDoor, Cond.instanceMethod yX8_isDoor, Cond.selects RX8 yX8_isDoor yX8_isDoor, Cond.initialized RX8, Cond.code yX8_isDoor cX8_isDoor 2 (some .boolean), Cond.methodLink RX8 53 yX8_in, Cond.static yX8_in, Cond.code yX8_in cX8_in 6 (some .boolean), Cond.methodLink RX8 177 yX8_isLong, Cond.static yX8_isLong, Cond.code yX8_isLong cX8_isLong 1 (some .boolean), Cond.constantLong RX8 119 (100), Cond.methodLink RX8 189 yX8_ticksGo, Cond.instanceMethod yX8_ticksGo, Cond.selects RX8 yX8_ticksGo yX8_ticksGo, Cond.code yX8_ticksGo cX8_ticksGo 4 (some .int), Cond.fieldLink RX8 121 "TokenDoorsModel" "let" "I", Cond.methodLink RX8 186 yX8_copies, Cond.instanceMethod yX8_copies, Cond.selects RX8 yX8_copies yX8_copies, Cond.code yX8_copies cX8_copies 4 none, Cond.methodLink RX8 180 yX8_starts, Cond.instanceMethod yX8_starts]
def wsX8_ahead_r2 : List Cond := [Cond.selects RX8 yX8_starts yX8_starts, Cond.code yX8_starts cX8_starts 2 none, Cond.fieldLink RX8 124 "TokenDoorsModel" "turned" "I", Cond.fieldLink RX8 127 "TokenDoorsModel" "badTicks" "I", Cond.fieldLink RX8 130 "TokenDoorsModel" "worstTick" "I", Cond.fieldLink RX8 29 "TokenDoorsModel" "turnedBy" "[I", Cond.methodLink RX8 183 yX8_goesOn, Cond.instanceMethod yX8_goesOn, Cond.selects RX8 yX8_goesOn yX8_goesOn, Cond.code yX8_goesOn cX8_goesOn 2 (some .int), Cond.methodLink RX8 144 yX8_comeOn, Cond.instanceMethod yX8_comeOn, Cond.selects RX8 yX8_comeOn yX8_comeOn, Cond.code yX8_comeOn cX8_comeOn 6 (some .int), Cond.methodLink RX8 147 yX8_tickOn, Cond.instanceMethod yX8_tickOn, Cond.selects RX8 yX8_tickOn yX8_tickOn, Cond.code yX8_tickOn cX8_tickOn 6 (some .int), Cond.fieldLink RX8 25 "TokenDoorsModel" "opened" "I", Cond.methodLink RX8 137 yX8_passOn, Cond.instanceMethod yX8_passOn, Cond.selects RX8 yX8_passOn yX8_passOn, Cond.code yX8_passOn cX8_passOn 3 (some .int), Cond.constant RX8 136 (99999)]
def wsX8_ahead_r3 : List Cond := [Cond.methodLink RX8 133 yX8_roomOn, Cond.instanceMethod yX8_roomOn, Cond.selects RX8 yX8_roomOn yX8_roomOn, Cond.code yX8_roomOn cX8_roomOn 4 (some .int), Cond.methodLink RX8 140 yX8_settlesOn, Cond.instanceMethod yX8_settlesOn, Cond.selects RX8 yX8_settlesOn yX8_settlesOn, Cond.code yX8_settlesOn cX8_settlesOn 7 none]
def wsX8_ahead : List Cond := .code yX8_ahead cX8_ahead 3 (some .int) :: ((wsX8_ahead_r1 ++ (wsX8_ahead_r2 ++ wsX8_ahead_r3)) ++ wsX80)
def wsX8_lets_r1 : List Cond := [Cond.methodLink RX8 177 yX8_isLong, Cond.static yX8_isLong, Cond.initialized RX8, Cond.code yX8_isLong cX8_isLong 1 (some .boolean), Cond.constantLong RX8 119 (100), Cond.methodLink RX8 53 yX8_in, Cond.static yX8_in, Cond.code yX8_in cX8_in 6 (some .boolean), Cond.methodLink RX8 189 yX8_ticksGo, Cond.instanceMethod yX8_ticksGo, Cond.selects RX8 yX8_ticksGo yX8_ticksGo, Cond.code yX8_ticksGo cX8_ticksGo 4 (some .int), Cond.fieldLink RX8 121 "TokenDoorsModel" "let" "I", Cond.methodLink RX8 186 yX8_copies, Cond.instanceMethod yX8_copies, Cond.selects RX8 yX8_copies yX8_copies, Cond.code yX8_copies cX8_copies 4 none, Cond.fieldLink RX8 7 "TokenDoorsModel" "state" "[I", Cond.methodLink RX8 180 yX8_starts, Cond.instanceMethod yX8_starts, Cond.selects RX8 yX8_starts yX8_starts, Cond.code yX8_starts cX8_starts 2 none, Cond.fieldLink RX8 124 "TokenDoorsModel" "turned" "I", Cond.fieldLink RX8 127 "TokenDoorsModel" "badTicks" "I"]
def wsX8_lets_r2 : List Cond := [Cond.fieldLink RX8 130 "TokenDoorsModel" "worstTick" "I", Cond.fieldLink RX8 29 "TokenDoorsModel" "turnedBy" "[I", Cond.methodLink RX8 183 yX8_goesOn, Cond.instanceMethod yX8_goesOn, Cond.selects RX8 yX8_goesOn yX8_goesOn, Cond.code yX8_goesOn cX8_goesOn 2 (some .int), Cond.methodLink RX8 144 yX8_comeOn, Cond.instanceMethod yX8_comeOn, Cond.selects RX8 yX8_comeOn yX8_comeOn, Cond.code yX8_comeOn cX8_comeOn 6 (some .int), Cond.methodLink RX8 147 yX8_tickOn, Cond.instanceMethod yX8_tickOn, Cond.selects RX8 yX8_tickOn yX8_tickOn, Cond.code yX8_tickOn cX8_tickOn 6 (some .int), Cond.fieldLink RX8 25 "TokenDoorsModel" "opened" "I", Cond.methodLink RX8 137 yX8_passOn, Cond.instanceMethod yX8_passOn, Cond.selects RX8 yX8_passOn yX8_passOn, Cond.code yX8_passOn cX8_passOn 3 (some .int), Cond.constant RX8 136 (99999), Cond.methodLink RX8 133 yX8_roomOn, Cond.instanceMethod yX8_roomOn, Cond.selects RX8 yX8_roomOn yX8_roomOn, Cond.code yX8_roomOn cX8_roomOn 4 (some .int)]
def wsX8_lets_r3 : List Cond := [Cond.methodLink RX8 140 yX8_settlesOn, Cond.instanceMethod yX8_settlesOn, Cond.selects RX8 yX8_settlesOn yX8_settlesOn, Cond.code yX8_settlesOn cX8_settlesOn 7 none]
def wsX8_lets : List Cond := .code yX8_lets cX8_lets 2 (some .int) :: ((wsX8_lets_r1 ++ (wsX8_lets_r2 ++ wsX8_lets_r3)) ++ wsX80)
def wsX8_turns_r1 : List Cond := [Cond.fieldLink RX8 29 "TokenDoorsModel" "turnedBy" "[I", Cond.methodLink RX8 150 yX8_isDoor, Cond.instanceMethod yX8_isDoor, Cond.selects RX8 yX8_isDoor yX8_isDoor, Cond.initialized RX8, Cond.code yX8_isDoor cX8_isDoor 2 (some .boolean), Cond.fieldLink RX8 7 "TokenDoorsModel" "state" "[I", Cond.methodLink RX8 53 yX8_in, Cond.static yX8_in, Cond.code yX8_in cX8_in 6 (some .boolean), Cond.methodLink RX8 177 yX8_isLong, Cond.static yX8_isLong, Cond.code yX8_isLong cX8_isLong 1 (some .boolean), Cond.constantLong RX8 119 (100), Cond.methodLink RX8 189 yX8_ticksGo, Cond.instanceMethod yX8_ticksGo, Cond.selects RX8 yX8_ticksGo yX8_ticksGo, Cond.code yX8_ticksGo cX8_ticksGo 4 (some .int), Cond.fieldLink RX8 121 "TokenDoorsModel" "let" "I", Cond.methodLink RX8 186 yX8_copies, Cond.instanceMethod yX8_copies, Cond.selects RX8 yX8_copies yX8_copies, Cond.code yX8_copies cX8_copies 4 none, Cond.methodLink RX8 180 yX8_starts]
def wsX8_turns_r2 : List Cond := [Cond.instanceMethod yX8_starts, Cond.selects RX8 yX8_starts yX8_starts, Cond.code yX8_starts cX8_starts 2 none, Cond.fieldLink RX8 124 "TokenDoorsModel" "turned" "I", Cond.fieldLink RX8 127 "TokenDoorsModel" "badTicks" "I", Cond.fieldLink RX8 130 "TokenDoorsModel" "worstTick" "I", Cond.methodLink RX8 183 yX8_goesOn, Cond.instanceMethod yX8_goesOn, Cond.selects RX8 yX8_goesOn yX8_goesOn, Cond.code yX8_goesOn cX8_goesOn 2 (some .int), Cond.methodLink RX8 144 yX8_comeOn, Cond.instanceMethod yX8_comeOn, Cond.selects RX8 yX8_comeOn yX8_comeOn, Cond.code yX8_comeOn cX8_comeOn 6 (some .int), Cond.methodLink RX8 147 yX8_tickOn, Cond.instanceMethod yX8_tickOn, Cond.selects RX8 yX8_tickOn yX8_tickOn, Cond.code yX8_tickOn cX8_tickOn 6 (some .int), Cond.fieldLink RX8 25 "TokenDoorsModel" "opened" "I", Cond.methodLink RX8 137 yX8_passOn, Cond.instanceMethod yX8_passOn, Cond.selects RX8 yX8_passOn yX8_passOn, Cond.code yX8_passOn cX8_passOn 3 (some .int), Cond.constant RX8 136 (99999)]
def wsX8_turns_r3 : List Cond := [Cond.methodLink RX8 133 yX8_roomOn, Cond.instanceMethod yX8_roomOn, Cond.selects RX8 yX8_roomOn yX8_roomOn, Cond.code yX8_roomOn cX8_roomOn 4 (some .int), Cond.methodLink RX8 140 yX8_settlesOn, Cond.instanceMethod yX8_settlesOn, Cond.selects RX8 yX8_settlesOn yX8_settlesOn, Cond.code yX8_settlesOn cX8_settlesOn 7 none]
def wsX8_turns : List Cond := .code yX8_turns cX8_turns 3 (some .int) :: ((wsX8_turns_r1 ++ (wsX8_turns_r2 ++ wsX8_turns_r3)) ++ wsX80)
def wsX8_when_r1 : List Cond := [Cond.fieldLink RX8 124 "TokenDoorsModel" "turned" "I", Cond.methodLink RX8 186 yX8_copies, Cond.instanceMethod yX8_copies, Cond.selects RX8 yX8_copies yX8_copies, Cond.initialized RX8, Cond.code yX8_copies cX8_copies 4 none, Cond.fieldLink RX8 7 "TokenDoorsModel" "state" "[I", Cond.methodLink RX8 180 yX8_starts, Cond.instanceMethod yX8_starts, Cond.selects RX8 yX8_starts yX8_starts, Cond.code yX8_starts cX8_starts 2 none, Cond.fieldLink RX8 121 "TokenDoorsModel" "let" "I", Cond.fieldLink RX8 127 "TokenDoorsModel" "badTicks" "I", Cond.fieldLink RX8 130 "TokenDoorsModel" "worstTick" "I", Cond.fieldLink RX8 29 "TokenDoorsModel" "turnedBy" "[I", Cond.methodLink RX8 183 yX8_goesOn, Cond.instanceMethod yX8_goesOn, Cond.selects RX8 yX8_goesOn yX8_goesOn, Cond.code yX8_goesOn cX8_goesOn 2 (some .int), Cond.methodLink RX8 144 yX8_comeOn, Cond.instanceMethod yX8_comeOn, Cond.selects RX8 yX8_comeOn yX8_comeOn, Cond.code yX8_comeOn cX8_comeOn 6 (some .int), Cond.methodLink RX8 147 yX8_tickOn]
def wsX8_when_r2 : List Cond := [Cond.instanceMethod yX8_tickOn, Cond.selects RX8 yX8_tickOn yX8_tickOn, Cond.code yX8_tickOn cX8_tickOn 6 (some .int), Cond.fieldLink RX8 25 "TokenDoorsModel" "opened" "I", Cond.methodLink RX8 137 yX8_passOn, Cond.instanceMethod yX8_passOn, Cond.selects RX8 yX8_passOn yX8_passOn, Cond.code yX8_passOn cX8_passOn 3 (some .int), Cond.constant RX8 136 (99999), Cond.methodLink RX8 133 yX8_roomOn, Cond.instanceMethod yX8_roomOn, Cond.selects RX8 yX8_roomOn yX8_roomOn, Cond.code yX8_roomOn cX8_roomOn 4 (some .int), Cond.methodLink RX8 140 yX8_settlesOn, Cond.instanceMethod yX8_settlesOn, Cond.selects RX8 yX8_settlesOn yX8_settlesOn, Cond.code yX8_settlesOn cX8_settlesOn 7 none]
def wsX8_when : List Cond := .code yX8_when cX8_when 2 (some .int) :: ((wsX8_when_r1 ++ wsX8_when_r2) ++ wsX80)
def wsX8_depth_r1 : List Cond := [Cond.fieldLink RX8 29 "TokenDoorsModel" "turnedBy" "[I", Cond.methodLink RX8 150 yX8_isDoor, Cond.instanceMethod yX8_isDoor, Cond.selects RX8 yX8_isDoor yX8_isDoor, Cond.initialized RX8, Cond.code yX8_isDoor cX8_isDoor 2 (some .boolean), Cond.fieldLink RX8 7 "TokenDoorsModel" "state" "[I", Cond.methodLink RX8 53 yX8_in, Cond.static yX8_in, Cond.code yX8_in cX8_in 6 (some .boolean), Cond.methodLink RX8 177 yX8_isLong, Cond.static yX8_isLong, Cond.code yX8_isLong cX8_isLong 1 (some .boolean), Cond.constantLong RX8 119 (100), Cond.methodLink RX8 186 yX8_copies, Cond.instanceMethod yX8_copies, Cond.selects RX8 yX8_copies yX8_copies, Cond.code yX8_copies cX8_copies 4 none, Cond.methodLink RX8 163 yX8_deepOn, Cond.instanceMethod yX8_deepOn, Cond.selects RX8 yX8_deepOn yX8_deepOn, Cond.code yX8_deepOn cX8_deepOn 4 none, Cond.methodLink RX8 189 yX8_ticksGo, Cond.instanceMethod yX8_ticksGo]
def wsX8_depth_r2 : List Cond := [Cond.selects RX8 yX8_ticksGo yX8_ticksGo, Cond.code yX8_ticksGo cX8_ticksGo 4 (some .int), Cond.fieldLink RX8 121 "TokenDoorsModel" "let" "I", Cond.methodLink RX8 180 yX8_starts, Cond.instanceMethod yX8_starts, Cond.selects RX8 yX8_starts yX8_starts, Cond.code yX8_starts cX8_starts 2 none, Cond.fieldLink RX8 124 "TokenDoorsModel" "turned" "I", Cond.fieldLink RX8 127 "TokenDoorsModel" "badTicks" "I", Cond.fieldLink RX8 130 "TokenDoorsModel" "worstTick" "I", Cond.methodLink RX8 183 yX8_goesOn, Cond.instanceMethod yX8_goesOn, Cond.selects RX8 yX8_goesOn yX8_goesOn, Cond.code yX8_goesOn cX8_goesOn 2 (some .int), Cond.methodLink RX8 144 yX8_comeOn, Cond.instanceMethod yX8_comeOn, Cond.selects RX8 yX8_comeOn yX8_comeOn, Cond.code yX8_comeOn cX8_comeOn 6 (some .int), Cond.methodLink RX8 147 yX8_tickOn, Cond.instanceMethod yX8_tickOn, Cond.selects RX8 yX8_tickOn yX8_tickOn, Cond.code yX8_tickOn cX8_tickOn 6 (some .int), Cond.fieldLink RX8 25 "TokenDoorsModel" "opened" "I", Cond.methodLink RX8 137 yX8_passOn]
def wsX8_depth_r3 : List Cond := [Cond.instanceMethod yX8_passOn, Cond.selects RX8 yX8_passOn yX8_passOn, Cond.code yX8_passOn cX8_passOn 3 (some .int), Cond.constant RX8 136 (99999), Cond.methodLink RX8 133 yX8_roomOn, Cond.instanceMethod yX8_roomOn, Cond.selects RX8 yX8_roomOn yX8_roomOn, Cond.code yX8_roomOn cX8_roomOn 4 (some .int), Cond.methodLink RX8 140 yX8_settlesOn, Cond.instanceMethod yX8_settlesOn, Cond.selects RX8 yX8_settlesOn yX8_settlesOn, Cond.code yX8_settlesOn cX8_settlesOn 7 none]
def wsX8_depth : List Cond := .code yX8_depth cX8_depth 4 (some .int) :: ((wsX8_depth_r1 ++ (wsX8_depth_r2 ++ wsX8_depth_r3)) ++ wsX80)
def wsX8_rate_r1 : List Cond := [Cond.fieldLink RX8 7 "TokenDoorsModel" "state" "[I", Cond.fieldLink RX8 29 "TokenDoorsModel" "turnedBy" "[I", Cond.methodLink RX8 150 yX8_isDoor, Cond.instanceMethod yX8_isDoor, Cond.selects RX8 yX8_isDoor yX8_isDoor, Cond.initialized RX8, Cond.code yX8_isDoor cX8_isDoor 2 (some .boolean), Cond.methodLink RX8 53 yX8_in, Cond.static yX8_in, Cond.code yX8_in cX8_in 6 (some .boolean), Cond.methodLink RX8 177 yX8_isLong, Cond.static yX8_isLong, Cond.code yX8_isLong cX8_isLong 1 (some .boolean), Cond.constantLong RX8 119 (100), Cond.methodLink RX8 186 yX8_copies, Cond.instanceMethod yX8_copies, Cond.selects RX8 yX8_copies yX8_copies, Cond.code yX8_copies cX8_copies 4 none, Cond.methodLink RX8 189 yX8_ticksGo, Cond.instanceMethod yX8_ticksGo, Cond.selects RX8 yX8_ticksGo yX8_ticksGo, Cond.code yX8_ticksGo cX8_ticksGo 4 (some .int), Cond.fieldLink RX8 121 "TokenDoorsModel" "let" "I", Cond.methodLink RX8 180 yX8_starts]
def wsX8_rate_r2 : List Cond := [Cond.instanceMethod yX8_starts, Cond.selects RX8 yX8_starts yX8_starts, Cond.code yX8_starts cX8_starts 2 none, Cond.fieldLink RX8 124 "TokenDoorsModel" "turned" "I", Cond.fieldLink RX8 127 "TokenDoorsModel" "badTicks" "I", Cond.fieldLink RX8 130 "TokenDoorsModel" "worstTick" "I", Cond.methodLink RX8 183 yX8_goesOn, Cond.instanceMethod yX8_goesOn, Cond.selects RX8 yX8_goesOn yX8_goesOn, Cond.code yX8_goesOn cX8_goesOn 2 (some .int), Cond.methodLink RX8 144 yX8_comeOn, Cond.instanceMethod yX8_comeOn, Cond.selects RX8 yX8_comeOn yX8_comeOn, Cond.code yX8_comeOn cX8_comeOn 6 (some .int), Cond.methodLink RX8 147 yX8_tickOn, Cond.instanceMethod yX8_tickOn, Cond.selects RX8 yX8_tickOn yX8_tickOn, Cond.code yX8_tickOn cX8_tickOn 6 (some .int), Cond.fieldLink RX8 25 "TokenDoorsModel" "opened" "I", Cond.methodLink RX8 137 yX8_passOn, Cond.instanceMethod yX8_passOn, Cond.selects RX8 yX8_passOn yX8_passOn, Cond.code yX8_passOn cX8_passOn 3 (some .int), Cond.constant RX8 136 (99999)]
def wsX8_rate_r3 : List Cond := [Cond.methodLink RX8 133 yX8_roomOn, Cond.instanceMethod yX8_roomOn, Cond.selects RX8 yX8_roomOn yX8_roomOn, Cond.code yX8_roomOn cX8_roomOn 4 (some .int), Cond.methodLink RX8 140 yX8_settlesOn, Cond.instanceMethod yX8_settlesOn, Cond.selects RX8 yX8_settlesOn yX8_settlesOn, Cond.code yX8_settlesOn cX8_settlesOn 7 none]
def wsX8_rate : List Cond := .code yX8_rate cX8_rate 4 (some .int) :: ((wsX8_rate_r1 ++ (wsX8_rate_r2 ++ wsX8_rate_r3)) ++ wsX80)
def wsX8_swap_r1 : List Cond := [Cond.fieldLink RX8 7 "TokenDoorsModel" "state" "[I", Cond.methodLink RX8 177 yX8_isLong, Cond.static yX8_isLong, Cond.initialized RX8, Cond.code yX8_isLong cX8_isLong 1 (some .boolean), Cond.constantLong RX8 119 (100), Cond.methodLink RX8 53 yX8_in, Cond.static yX8_in, Cond.code yX8_in cX8_in 6 (some .boolean), Cond.methodLink RX8 189 yX8_ticksGo, Cond.instanceMethod yX8_ticksGo, Cond.selects RX8 yX8_ticksGo yX8_ticksGo, Cond.code yX8_ticksGo cX8_ticksGo 4 (some .int), Cond.fieldLink RX8 121 "TokenDoorsModel" "let" "I", Cond.methodLink RX8 186 yX8_copies, Cond.instanceMethod yX8_copies, Cond.selects RX8 yX8_copies yX8_copies, Cond.code yX8_copies cX8_copies 4 none, Cond.methodLink RX8 180 yX8_starts, Cond.instanceMethod yX8_starts, Cond.selects RX8 yX8_starts yX8_starts, Cond.code yX8_starts cX8_starts 2 none, Cond.fieldLink RX8 124 "TokenDoorsModel" "turned" "I", Cond.fieldLink RX8 127 "TokenDoorsModel" "badTicks" "I"]
def wsX8_swap_r2 : List Cond := [Cond.fieldLink RX8 130 "TokenDoorsModel" "worstTick" "I", Cond.fieldLink RX8 29 "TokenDoorsModel" "turnedBy" "[I", Cond.methodLink RX8 183 yX8_goesOn, Cond.instanceMethod yX8_goesOn, Cond.selects RX8 yX8_goesOn yX8_goesOn, Cond.code yX8_goesOn cX8_goesOn 2 (some .int), Cond.methodLink RX8 144 yX8_comeOn, Cond.instanceMethod yX8_comeOn, Cond.selects RX8 yX8_comeOn yX8_comeOn, Cond.code yX8_comeOn cX8_comeOn 6 (some .int), Cond.methodLink RX8 147 yX8_tickOn, Cond.instanceMethod yX8_tickOn, Cond.selects RX8 yX8_tickOn yX8_tickOn, Cond.code yX8_tickOn cX8_tickOn 6 (some .int), Cond.fieldLink RX8 25 "TokenDoorsModel" "opened" "I", Cond.methodLink RX8 137 yX8_passOn, Cond.instanceMethod yX8_passOn, Cond.selects RX8 yX8_passOn yX8_passOn, Cond.code yX8_passOn cX8_passOn 3 (some .int), Cond.constant RX8 136 (99999), Cond.methodLink RX8 133 yX8_roomOn, Cond.instanceMethod yX8_roomOn, Cond.selects RX8 yX8_roomOn yX8_roomOn, Cond.code yX8_roomOn cX8_roomOn 4 (some .int)]
def wsX8_swap_r3 : List Cond := [Cond.methodLink RX8 140 yX8_settlesOn, Cond.instanceMethod yX8_settlesOn, Cond.selects RX8 yX8_settlesOn yX8_settlesOn, Cond.code yX8_settlesOn cX8_settlesOn 7 none]
def wsX8_swap : List Cond := .code yX8_swap cX8_swap 8 (some .int) :: ((wsX8_swap_r1 ++ (wsX8_swap_r2 ++ wsX8_swap_r3)) ++ wsX80)
def wsX8_open_r1 : List Cond := [Cond.fieldLink RX8 7 "TokenDoorsModel" "state" "[I", Cond.fieldLink RX8 25 "TokenDoorsModel" "opened" "I", Cond.methodLink RX8 177 yX8_isLong, Cond.static yX8_isLong, Cond.initialized RX8, Cond.code yX8_isLong cX8_isLong 1 (some .boolean), Cond.constantLong RX8 119 (100), Cond.methodLink RX8 53 yX8_in, Cond.static yX8_in, Cond.code yX8_in cX8_in 6 (some .boolean), Cond.methodLink RX8 189 yX8_ticksGo, Cond.instanceMethod yX8_ticksGo, Cond.selects RX8 yX8_ticksGo yX8_ticksGo, Cond.code yX8_ticksGo cX8_ticksGo 4 (some .int), Cond.fieldLink RX8 121 "TokenDoorsModel" "let" "I", Cond.methodLink RX8 186 yX8_copies, Cond.instanceMethod yX8_copies, Cond.selects RX8 yX8_copies yX8_copies, Cond.code yX8_copies cX8_copies 4 none, Cond.methodLink RX8 180 yX8_starts, Cond.instanceMethod yX8_starts, Cond.selects RX8 yX8_starts yX8_starts, Cond.code yX8_starts cX8_starts 2 none, Cond.fieldLink RX8 124 "TokenDoorsModel" "turned" "I"]
def wsX8_open_r2 : List Cond := [Cond.fieldLink RX8 127 "TokenDoorsModel" "badTicks" "I", Cond.fieldLink RX8 130 "TokenDoorsModel" "worstTick" "I", Cond.fieldLink RX8 29 "TokenDoorsModel" "turnedBy" "[I", Cond.methodLink RX8 183 yX8_goesOn, Cond.instanceMethod yX8_goesOn, Cond.selects RX8 yX8_goesOn yX8_goesOn, Cond.code yX8_goesOn cX8_goesOn 2 (some .int), Cond.methodLink RX8 144 yX8_comeOn, Cond.instanceMethod yX8_comeOn, Cond.selects RX8 yX8_comeOn yX8_comeOn, Cond.code yX8_comeOn cX8_comeOn 6 (some .int), Cond.methodLink RX8 147 yX8_tickOn, Cond.instanceMethod yX8_tickOn, Cond.selects RX8 yX8_tickOn yX8_tickOn, Cond.code yX8_tickOn cX8_tickOn 6 (some .int), Cond.methodLink RX8 137 yX8_passOn, Cond.instanceMethod yX8_passOn, Cond.selects RX8 yX8_passOn yX8_passOn, Cond.code yX8_passOn cX8_passOn 3 (some .int), Cond.constant RX8 136 (99999), Cond.methodLink RX8 133 yX8_roomOn, Cond.instanceMethod yX8_roomOn, Cond.selects RX8 yX8_roomOn yX8_roomOn, Cond.code yX8_roomOn cX8_roomOn 4 (some .int)]
def wsX8_open_r3 : List Cond := [Cond.methodLink RX8 140 yX8_settlesOn, Cond.instanceMethod yX8_settlesOn, Cond.selects RX8 yX8_settlesOn yX8_settlesOn, Cond.code yX8_settlesOn cX8_settlesOn 7 none]
def wsX8_open : List Cond := .code yX8_open cX8_open 7 (some .int) :: ((wsX8_open_r1 ++ (wsX8_open_r2 ++ wsX8_open_r3)) ++ wsX80)
def wsX8_mostAt_r1 : List Cond := [Cond.fieldLink RX8 7 "TokenDoorsModel" "state" "[I", Cond.methodLink RX8 186 yX8_copies, Cond.instanceMethod yX8_copies, Cond.selects RX8 yX8_copies yX8_copies, Cond.initialized RX8, Cond.code yX8_copies cX8_copies 4 none, Cond.methodLink RX8 189 yX8_ticksGo, Cond.instanceMethod yX8_ticksGo, Cond.selects RX8 yX8_ticksGo yX8_ticksGo, Cond.code yX8_ticksGo cX8_ticksGo 4 (some .int), Cond.fieldLink RX8 121 "TokenDoorsModel" "let" "I", Cond.methodLink RX8 180 yX8_starts, Cond.instanceMethod yX8_starts, Cond.selects RX8 yX8_starts yX8_starts, Cond.code yX8_starts cX8_starts 2 none, Cond.fieldLink RX8 124 "TokenDoorsModel" "turned" "I", Cond.fieldLink RX8 127 "TokenDoorsModel" "badTicks" "I", Cond.fieldLink RX8 130 "TokenDoorsModel" "worstTick" "I", Cond.fieldLink RX8 29 "TokenDoorsModel" "turnedBy" "[I", Cond.methodLink RX8 183 yX8_goesOn, Cond.instanceMethod yX8_goesOn, Cond.selects RX8 yX8_goesOn yX8_goesOn, Cond.code yX8_goesOn cX8_goesOn 2 (some .int), Cond.methodLink RX8 144 yX8_comeOn]
def wsX8_mostAt_r2 : List Cond := [Cond.instanceMethod yX8_comeOn, Cond.selects RX8 yX8_comeOn yX8_comeOn, Cond.code yX8_comeOn cX8_comeOn 6 (some .int), Cond.methodLink RX8 147 yX8_tickOn, Cond.instanceMethod yX8_tickOn, Cond.selects RX8 yX8_tickOn yX8_tickOn, Cond.code yX8_tickOn cX8_tickOn 6 (some .int), Cond.fieldLink RX8 25 "TokenDoorsModel" "opened" "I", Cond.methodLink RX8 137 yX8_passOn, Cond.instanceMethod yX8_passOn, Cond.selects RX8 yX8_passOn yX8_passOn, Cond.code yX8_passOn cX8_passOn 3 (some .int), Cond.constant RX8 136 (99999), Cond.methodLink RX8 133 yX8_roomOn, Cond.instanceMethod yX8_roomOn, Cond.selects RX8 yX8_roomOn yX8_roomOn, Cond.code yX8_roomOn cX8_roomOn 4 (some .int), Cond.methodLink RX8 140 yX8_settlesOn, Cond.instanceMethod yX8_settlesOn, Cond.selects RX8 yX8_settlesOn yX8_settlesOn, Cond.code yX8_settlesOn cX8_settlesOn 7 none]
def wsX8_mostAt : List Cond := .code yX8_mostAt cX8_mostAt 9 (some .int) :: ((wsX8_mostAt_r1 ++ wsX8_mostAt_r2) ++ wsX80)
def wsX8_kind_r1 : List Cond := [Cond.methodLink RX8 150 yX8_isDoor, Cond.instanceMethod yX8_isDoor, Cond.selects RX8 yX8_isDoor yX8_isDoor, Cond.initialized RX8, Cond.code yX8_isDoor cX8_isDoor 2 (some .boolean), Cond.fieldLink RX8 7 "TokenDoorsModel" "state" "[I", Cond.methodLink RX8 53 yX8_in, Cond.static yX8_in, Cond.code yX8_in cX8_in 6 (some .boolean), Cond.methodLink RX8 177 yX8_isLong, Cond.static yX8_isLong, Cond.code yX8_isLong cX8_isLong 1 (some .boolean), Cond.constantLong RX8 119 (100), Cond.methodLink RX8 195 yX8_mostAt, Cond.instanceMethod yX8_mostAt, Cond.selects RX8 yX8_mostAt yX8_mostAt, Cond.code yX8_mostAt cX8_mostAt 9 (some .int), Cond.methodLink RX8 186 yX8_copies, Cond.instanceMethod yX8_copies, Cond.selects RX8 yX8_copies yX8_copies, Cond.code yX8_copies cX8_copies 4 none, Cond.methodLink RX8 189 yX8_ticksGo, Cond.instanceMethod yX8_ticksGo, Cond.selects RX8 yX8_ticksGo yX8_ticksGo]
def wsX8_kind_r2 : List Cond := [Cond.code yX8_ticksGo cX8_ticksGo 4 (some .int), Cond.fieldLink RX8 121 "TokenDoorsModel" "let" "I", Cond.methodLink RX8 180 yX8_starts, Cond.instanceMethod yX8_starts, Cond.selects RX8 yX8_starts yX8_starts, Cond.code yX8_starts cX8_starts 2 none, Cond.fieldLink RX8 124 "TokenDoorsModel" "turned" "I", Cond.fieldLink RX8 127 "TokenDoorsModel" "badTicks" "I", Cond.fieldLink RX8 130 "TokenDoorsModel" "worstTick" "I", Cond.fieldLink RX8 29 "TokenDoorsModel" "turnedBy" "[I", Cond.methodLink RX8 183 yX8_goesOn, Cond.instanceMethod yX8_goesOn, Cond.selects RX8 yX8_goesOn yX8_goesOn, Cond.code yX8_goesOn cX8_goesOn 2 (some .int), Cond.methodLink RX8 144 yX8_comeOn, Cond.instanceMethod yX8_comeOn, Cond.selects RX8 yX8_comeOn yX8_comeOn, Cond.code yX8_comeOn cX8_comeOn 6 (some .int), Cond.methodLink RX8 147 yX8_tickOn, Cond.instanceMethod yX8_tickOn, Cond.selects RX8 yX8_tickOn yX8_tickOn, Cond.code yX8_tickOn cX8_tickOn 6 (some .int), Cond.fieldLink RX8 25 "TokenDoorsModel" "opened" "I", Cond.methodLink RX8 137 yX8_passOn]
def wsX8_kind_r3 : List Cond := [Cond.instanceMethod yX8_passOn, Cond.selects RX8 yX8_passOn yX8_passOn, Cond.code yX8_passOn cX8_passOn 3 (some .int), Cond.constant RX8 136 (99999), Cond.methodLink RX8 133 yX8_roomOn, Cond.instanceMethod yX8_roomOn, Cond.selects RX8 yX8_roomOn yX8_roomOn, Cond.code yX8_roomOn cX8_roomOn 4 (some .int), Cond.methodLink RX8 140 yX8_settlesOn, Cond.instanceMethod yX8_settlesOn, Cond.selects RX8 yX8_settlesOn yX8_settlesOn, Cond.code yX8_settlesOn cX8_settlesOn 7 none]
def wsX8_kind : List Cond := .code yX8_kind cX8_kind 4 (some .int) :: ((wsX8_kind_r1 ++ (wsX8_kind_r2 ++ wsX8_kind_r3)) ++ wsX80)
def wsX8_fill_r1 : List Cond := [Cond.fieldLink RX8 7 "TokenDoorsModel" "state" "[I", Cond.methodLink RX8 150 yX8_isDoor, Cond.instanceMethod yX8_isDoor, Cond.selects RX8 yX8_isDoor yX8_isDoor, Cond.initialized RX8, Cond.code yX8_isDoor cX8_isDoor 2 (some .boolean), Cond.methodLink RX8 53 yX8_in, Cond.static yX8_in, Cond.code yX8_in cX8_in 6 (some .boolean), Cond.methodLink RX8 177 yX8_isLong, Cond.static yX8_isLong, Cond.code yX8_isLong cX8_isLong 1 (some .boolean), Cond.constantLong RX8 119 (100), Cond.methodLink RX8 195 yX8_mostAt, Cond.instanceMethod yX8_mostAt, Cond.selects RX8 yX8_mostAt yX8_mostAt, Cond.code yX8_mostAt cX8_mostAt 9 (some .int), Cond.methodLink RX8 186 yX8_copies, Cond.instanceMethod yX8_copies, Cond.selects RX8 yX8_copies yX8_copies, Cond.code yX8_copies cX8_copies 4 none, Cond.methodLink RX8 189 yX8_ticksGo, Cond.instanceMethod yX8_ticksGo, Cond.selects RX8 yX8_ticksGo yX8_ticksGo]
def wsX8_fill_r2 : List Cond := [Cond.code yX8_ticksGo cX8_ticksGo 4 (some .int), Cond.fieldLink RX8 121 "TokenDoorsModel" "let" "I", Cond.methodLink RX8 180 yX8_starts, Cond.instanceMethod yX8_starts, Cond.selects RX8 yX8_starts yX8_starts, Cond.code yX8_starts cX8_starts 2 none, Cond.fieldLink RX8 124 "TokenDoorsModel" "turned" "I", Cond.fieldLink RX8 127 "TokenDoorsModel" "badTicks" "I", Cond.fieldLink RX8 130 "TokenDoorsModel" "worstTick" "I", Cond.fieldLink RX8 29 "TokenDoorsModel" "turnedBy" "[I", Cond.methodLink RX8 183 yX8_goesOn, Cond.instanceMethod yX8_goesOn, Cond.selects RX8 yX8_goesOn yX8_goesOn, Cond.code yX8_goesOn cX8_goesOn 2 (some .int), Cond.methodLink RX8 144 yX8_comeOn, Cond.instanceMethod yX8_comeOn, Cond.selects RX8 yX8_comeOn yX8_comeOn, Cond.code yX8_comeOn cX8_comeOn 6 (some .int), Cond.methodLink RX8 147 yX8_tickOn, Cond.instanceMethod yX8_tickOn, Cond.selects RX8 yX8_tickOn yX8_tickOn, Cond.code yX8_tickOn cX8_tickOn 6 (some .int), Cond.fieldLink RX8 25 "TokenDoorsModel" "opened" "I", Cond.methodLink RX8 137 yX8_passOn]
def wsX8_fill_r3 : List Cond := [Cond.instanceMethod yX8_passOn, Cond.selects RX8 yX8_passOn yX8_passOn, Cond.code yX8_passOn cX8_passOn 3 (some .int), Cond.constant RX8 136 (99999), Cond.methodLink RX8 133 yX8_roomOn, Cond.instanceMethod yX8_roomOn, Cond.selects RX8 yX8_roomOn yX8_roomOn, Cond.code yX8_roomOn cX8_roomOn 4 (some .int), Cond.methodLink RX8 140 yX8_settlesOn, Cond.instanceMethod yX8_settlesOn, Cond.selects RX8 yX8_settlesOn yX8_settlesOn, Cond.code yX8_settlesOn cX8_settlesOn 7 none]
def wsX8_fill : List Cond := .code yX8_fill cX8_fill 4 (some .int) :: ((wsX8_fill_r1 ++ (wsX8_fill_r2 ++ wsX8_fill_r3)) ++ wsX80)
def wsX8_lowest : List Cond := .code yX8_lowest cX8_lowest 11 (some .long) :: ([])
def wsX8_byNobody_r1 : List Cond := [Cond.constantLong RX8 199 (10), Cond.fieldLink RX8 121 "TokenDoorsModel" "let" "I", Cond.fieldLink RX8 124 "TokenDoorsModel" "turned" "I", Cond.methodLink RX8 186 yX8_copies, Cond.instanceMethod yX8_copies, Cond.selects RX8 yX8_copies yX8_copies, Cond.initialized RX8, Cond.code yX8_copies cX8_copies 4 none, Cond.fieldLink RX8 7 "TokenDoorsModel" "state" "[I", Cond.methodLink RX8 180 yX8_starts, Cond.instanceMethod yX8_starts, Cond.selects RX8 yX8_starts yX8_starts, Cond.code yX8_starts cX8_starts 2 none, Cond.fieldLink RX8 127 "TokenDoorsModel" "badTicks" "I", Cond.fieldLink RX8 130 "TokenDoorsModel" "worstTick" "I", Cond.fieldLink RX8 29 "TokenDoorsModel" "turnedBy" "[I", Cond.methodLink RX8 144 yX8_comeOn, Cond.instanceMethod yX8_comeOn, Cond.selects RX8 yX8_comeOn yX8_comeOn, Cond.code yX8_comeOn cX8_comeOn 6 (some .int), Cond.methodLink RX8 147 yX8_tickOn, Cond.instanceMethod yX8_tickOn, Cond.selects RX8 yX8_tickOn yX8_tickOn, Cond.code yX8_tickOn cX8_tickOn 6 (some .int)]
def wsX8_byNobody_r2 : List Cond := [Cond.fieldLink RX8 25 "TokenDoorsModel" "opened" "I", Cond.methodLink RX8 137 yX8_passOn, Cond.instanceMethod yX8_passOn, Cond.selects RX8 yX8_passOn yX8_passOn, Cond.code yX8_passOn cX8_passOn 3 (some .int), Cond.constant RX8 136 (99999), Cond.methodLink RX8 133 yX8_roomOn, Cond.instanceMethod yX8_roomOn, Cond.selects RX8 yX8_roomOn yX8_roomOn, Cond.code yX8_roomOn cX8_roomOn 4 (some .int), Cond.methodLink RX8 140 yX8_settlesOn, Cond.instanceMethod yX8_settlesOn, Cond.selects RX8 yX8_settlesOn yX8_settlesOn, Cond.code yX8_settlesOn cX8_settlesOn 7 none, Cond.methodLink RX8 201 yX8_lowest, Cond.static yX8_lowest, Cond.code yX8_lowest cX8_lowest 11 (some .long)]
def wsX8_byNobody : List Cond := .code yX8_byNobody cX8_byNobody 14 (some .long) :: ((wsX8_byNobody_r1 ++ wsX8_byNobody_r2) ++ wsX80)
def wsX8_luck_r1 : List Cond := [Cond.constantLong RX8 199 (10), Cond.constantLong RX8 205 (8), Cond.constantLong RX8 211 (-1), Cond.methodLink RX8 53 yX8_in, Cond.static yX8_in, Cond.initialized RX8, Cond.code yX8_in cX8_in 6 (some .boolean), Cond.methodLink RX8 207 yX8_byNobody, Cond.instanceMethod yX8_byNobody, Cond.selects RX8 yX8_byNobody yX8_byNobody, Cond.code yX8_byNobody cX8_byNobody 14 (some .long), Cond.fieldLink RX8 121 "TokenDoorsModel" "let" "I", Cond.fieldLink RX8 124 "TokenDoorsModel" "turned" "I", Cond.methodLink RX8 186 yX8_copies, Cond.instanceMethod yX8_copies, Cond.selects RX8 yX8_copies yX8_copies, Cond.code yX8_copies cX8_copies 4 none, Cond.fieldLink RX8 7 "TokenDoorsModel" "state" "[I", Cond.methodLink RX8 180 yX8_starts, Cond.instanceMethod yX8_starts, Cond.selects RX8 yX8_starts yX8_starts, Cond.code yX8_starts cX8_starts 2 none, Cond.fieldLink RX8 127 "TokenDoorsModel" "badTicks" "I", Cond.fieldLink RX8 130 "TokenDoorsModel" "worstTick" "I"]
def wsX8_luck_r2 : List Cond := [Cond.fieldLink RX8 29 "TokenDoorsModel" "turnedBy" "[I", Cond.methodLink RX8 144 yX8_comeOn, Cond.instanceMethod yX8_comeOn, Cond.selects RX8 yX8_comeOn yX8_comeOn, Cond.code yX8_comeOn cX8_comeOn 6 (some .int), Cond.methodLink RX8 147 yX8_tickOn, Cond.instanceMethod yX8_tickOn, Cond.selects RX8 yX8_tickOn yX8_tickOn, Cond.code yX8_tickOn cX8_tickOn 6 (some .int), Cond.fieldLink RX8 25 "TokenDoorsModel" "opened" "I", Cond.methodLink RX8 137 yX8_passOn, Cond.instanceMethod yX8_passOn, Cond.selects RX8 yX8_passOn yX8_passOn, Cond.code yX8_passOn cX8_passOn 3 (some .int), Cond.constant RX8 136 (99999), Cond.methodLink RX8 133 yX8_roomOn, Cond.instanceMethod yX8_roomOn, Cond.selects RX8 yX8_roomOn yX8_roomOn, Cond.code yX8_roomOn cX8_roomOn 4 (some .int), Cond.methodLink RX8 140 yX8_settlesOn, Cond.instanceMethod yX8_settlesOn, Cond.selects RX8 yX8_settlesOn yX8_settlesOn, Cond.code yX8_settlesOn cX8_settlesOn 7 none, Cond.methodLink RX8 201 yX8_lowest]
def wsX8_luck_r3 : List Cond := [Cond.static yX8_lowest, Cond.code yX8_lowest cX8_lowest 11 (some .long)]
def wsX8_luck : List Cond := .code yX8_luck cX8_luck 4 (some .long) :: ((wsX8_luck_r1 ++ (wsX8_luck_r2 ++ wsX8_luck_r3)) ++ wsX80)
def wsX8_mean_r1 : List Cond := [Cond.constantLong RX8 199 (10), Cond.constantLong RX8 205 (8), Cond.constantLong RX8 211 (-1), Cond.methodLink RX8 53 yX8_in, Cond.static yX8_in, Cond.initialized RX8, Cond.code yX8_in cX8_in 6 (some .boolean), Cond.methodLink RX8 207 yX8_byNobody, Cond.instanceMethod yX8_byNobody, Cond.selects RX8 yX8_byNobody yX8_byNobody, Cond.code yX8_byNobody cX8_byNobody 14 (some .long), Cond.fieldLink RX8 121 "TokenDoorsModel" "let" "I", Cond.fieldLink RX8 124 "TokenDoorsModel" "turned" "I", Cond.methodLink RX8 186 yX8_copies, Cond.instanceMethod yX8_copies, Cond.selects RX8 yX8_copies yX8_copies, Cond.code yX8_copies cX8_copies 4 none, Cond.fieldLink RX8 7 "TokenDoorsModel" "state" "[I", Cond.methodLink RX8 180 yX8_starts, Cond.instanceMethod yX8_starts, Cond.selects RX8 yX8_starts yX8_starts, Cond.code yX8_starts cX8_starts 2 none, Cond.fieldLink RX8 127 "TokenDoorsModel" "badTicks" "I", Cond.fieldLink RX8 130 "TokenDoorsModel" "worstTick" "I"]
def wsX8_mean_r2 : List Cond := [Cond.fieldLink RX8 29 "TokenDoorsModel" "turnedBy" "[I", Cond.methodLink RX8 144 yX8_comeOn, Cond.instanceMethod yX8_comeOn, Cond.selects RX8 yX8_comeOn yX8_comeOn, Cond.code yX8_comeOn cX8_comeOn 6 (some .int), Cond.methodLink RX8 147 yX8_tickOn, Cond.instanceMethod yX8_tickOn, Cond.selects RX8 yX8_tickOn yX8_tickOn, Cond.code yX8_tickOn cX8_tickOn 6 (some .int), Cond.fieldLink RX8 25 "TokenDoorsModel" "opened" "I", Cond.methodLink RX8 137 yX8_passOn, Cond.instanceMethod yX8_passOn, Cond.selects RX8 yX8_passOn yX8_passOn, Cond.code yX8_passOn cX8_passOn 3 (some .int), Cond.constant RX8 136 (99999), Cond.methodLink RX8 133 yX8_roomOn, Cond.instanceMethod yX8_roomOn, Cond.selects RX8 yX8_roomOn yX8_roomOn, Cond.code yX8_roomOn cX8_roomOn 4 (some .int), Cond.methodLink RX8 140 yX8_settlesOn, Cond.instanceMethod yX8_settlesOn, Cond.selects RX8 yX8_settlesOn yX8_settlesOn, Cond.code yX8_settlesOn cX8_settlesOn 7 none, Cond.methodLink RX8 201 yX8_lowest]
def wsX8_mean_r3 : List Cond := [Cond.static yX8_lowest, Cond.code yX8_lowest cX8_lowest 11 (some .long)]
def wsX8_mean : List Cond := .code yX8_mean cX8_mean 4 (some .long) :: ((wsX8_mean_r1 ++ (wsX8_mean_r2 ++ wsX8_mean_r3)) ++ wsX80)
def wsX8_see : List Cond := .code yX8_see cX8_see 3 (some .int) :: ([.constantLong RX8 213 (40), .constantLong RX8 215 (72), .fieldLink RX8 116 "TokenDoorsModel" "seenMany" "I", .fieldLink RX8 32 "TokenDoorsModel" "seen" "[I", .methodLink RX8 53 yX8_in, .static yX8_in, .initialized RX8, .code yX8_in cX8_in 6 (some .boolean)] ++ wsX80)
def wsX8_forget : List Cond := .code yX8_forget cX8_forget 3 (some .int) :: ([.fieldLink RX8 116 "TokenDoorsModel" "seenMany" "I", .methodLink RX8 53 yX8_in, .static yX8_in, .initialized RX8, .code yX8_in cX8_in 6 (some .boolean)] ++ wsX80)
def wsX8_isAsSeen_r1 : List Cond := [Cond.fieldLink RX8 35 "TokenDoorsModel" "letBy" "[I", Cond.fieldLink RX8 116 "TokenDoorsModel" "seenMany" "I", Cond.fieldLink RX8 32 "TokenDoorsModel" "seen" "[I", Cond.methodLink RX8 186 yX8_copies, Cond.instanceMethod yX8_copies, Cond.selects RX8 yX8_copies yX8_copies, Cond.initialized RX8, Cond.code yX8_copies cX8_copies 4 none, Cond.fieldLink RX8 7 "TokenDoorsModel" "state" "[I", Cond.methodLink RX8 180 yX8_starts, Cond.instanceMethod yX8_starts, Cond.selects RX8 yX8_starts yX8_starts, Cond.code yX8_starts cX8_starts 2 none, Cond.fieldLink RX8 121 "TokenDoorsModel" "let" "I", Cond.fieldLink RX8 124 "TokenDoorsModel" "turned" "I", Cond.fieldLink RX8 127 "TokenDoorsModel" "badTicks" "I", Cond.fieldLink RX8 130 "TokenDoorsModel" "worstTick" "I", Cond.fieldLink RX8 29 "TokenDoorsModel" "turnedBy" "[I", Cond.methodLink RX8 183 yX8_goesOn, Cond.instanceMethod yX8_goesOn, Cond.selects RX8 yX8_goesOn yX8_goesOn, Cond.code yX8_goesOn cX8_goesOn 2 (some .int), Cond.methodLink RX8 144 yX8_comeOn, Cond.instanceMethod yX8_comeOn]
def wsX8_isAsSeen_r2 : List Cond := [Cond.selects RX8 yX8_comeOn yX8_comeOn, Cond.code yX8_comeOn cX8_comeOn 6 (some .int), Cond.methodLink RX8 147 yX8_tickOn, Cond.instanceMethod yX8_tickOn, Cond.selects RX8 yX8_tickOn yX8_tickOn, Cond.code yX8_tickOn cX8_tickOn 6 (some .int), Cond.fieldLink RX8 25 "TokenDoorsModel" "opened" "I", Cond.methodLink RX8 137 yX8_passOn, Cond.instanceMethod yX8_passOn, Cond.selects RX8 yX8_passOn yX8_passOn, Cond.code yX8_passOn cX8_passOn 3 (some .int), Cond.constant RX8 136 (99999), Cond.methodLink RX8 133 yX8_roomOn, Cond.instanceMethod yX8_roomOn, Cond.selects RX8 yX8_roomOn yX8_roomOn, Cond.code yX8_roomOn cX8_roomOn 4 (some .int), Cond.methodLink RX8 140 yX8_settlesOn, Cond.instanceMethod yX8_settlesOn, Cond.selects RX8 yX8_settlesOn yX8_settlesOn, Cond.code yX8_settlesOn cX8_settlesOn 7 none]
def wsX8_isAsSeen : List Cond := .code yX8_isAsSeen cX8_isAsSeen 7 (some .boolean) :: ((wsX8_isAsSeen_r1 ++ wsX8_isAsSeen_r2) ++ wsX80)
def wsX8_kinds_r1 : List Cond := [Cond.fieldLink RX8 7 "TokenDoorsModel" "state" "[I", Cond.methodLink RX8 150 yX8_isDoor, Cond.instanceMethod yX8_isDoor, Cond.selects RX8 yX8_isDoor yX8_isDoor, Cond.initialized RX8, Cond.code yX8_isDoor cX8_isDoor 2 (some .boolean), Cond.methodLink RX8 53 yX8_in, Cond.static yX8_in, Cond.code yX8_in cX8_in 6 (some .boolean), Cond.methodLink RX8 186 yX8_copies, Cond.instanceMethod yX8_copies, Cond.selects RX8 yX8_copies yX8_copies, Cond.code yX8_copies cX8_copies 4 none, Cond.methodLink RX8 217 yX8_isAsSeen, Cond.instanceMethod yX8_isAsSeen, Cond.selects RX8 yX8_isAsSeen yX8_isAsSeen, Cond.code yX8_isAsSeen cX8_isAsSeen 7 (some .boolean), Cond.fieldLink RX8 35 "TokenDoorsModel" "letBy" "[I", Cond.fieldLink RX8 116 "TokenDoorsModel" "seenMany" "I", Cond.fieldLink RX8 32 "TokenDoorsModel" "seen" "[I", Cond.methodLink RX8 180 yX8_starts, Cond.instanceMethod yX8_starts, Cond.selects RX8 yX8_starts yX8_starts, Cond.code yX8_starts cX8_starts 2 none]
def wsX8_kinds_r2 : List Cond := [Cond.fieldLink RX8 121 "TokenDoorsModel" "let" "I", Cond.fieldLink RX8 124 "TokenDoorsModel" "turned" "I", Cond.fieldLink RX8 127 "TokenDoorsModel" "badTicks" "I", Cond.fieldLink RX8 130 "TokenDoorsModel" "worstTick" "I", Cond.fieldLink RX8 29 "TokenDoorsModel" "turnedBy" "[I", Cond.methodLink RX8 183 yX8_goesOn, Cond.instanceMethod yX8_goesOn, Cond.selects RX8 yX8_goesOn yX8_goesOn, Cond.code yX8_goesOn cX8_goesOn 2 (some .int), Cond.methodLink RX8 144 yX8_comeOn, Cond.instanceMethod yX8_comeOn, Cond.selects RX8 yX8_comeOn yX8_comeOn, Cond.code yX8_comeOn cX8_comeOn 6 (some .int), Cond.methodLink RX8 147 yX8_tickOn, Cond.instanceMethod yX8_tickOn, Cond.selects RX8 yX8_tickOn yX8_tickOn, Cond.code yX8_tickOn cX8_tickOn 6 (some .int), Cond.fieldLink RX8 25 "TokenDoorsModel" "opened" "I", Cond.methodLink RX8 137 yX8_passOn, Cond.instanceMethod yX8_passOn, Cond.selects RX8 yX8_passOn yX8_passOn, Cond.code yX8_passOn cX8_passOn 3 (some .int), Cond.constant RX8 136 (99999), Cond.methodLink RX8 133 yX8_roomOn]
def wsX8_kinds_r3 : List Cond := [Cond.instanceMethod yX8_roomOn, Cond.selects RX8 yX8_roomOn yX8_roomOn, Cond.code yX8_roomOn cX8_roomOn 4 (some .int), Cond.methodLink RX8 140 yX8_settlesOn, Cond.instanceMethod yX8_settlesOn, Cond.selects RX8 yX8_settlesOn yX8_settlesOn, Cond.code yX8_settlesOn cX8_settlesOn 7 none]
def wsX8_kinds : List Cond := .code yX8_kinds cX8_kinds 4 (some .int) :: ((wsX8_kinds_r1 ++ (wsX8_kinds_r2 ++ wsX8_kinds_r3)) ++ wsX80)
def wsX8_depths_r1 : List Cond := [Cond.methodLink RX8 150 yX8_isDoor, Cond.instanceMethod yX8_isDoor, Cond.selects RX8 yX8_isDoor yX8_isDoor, Cond.initialized RX8, Cond.code yX8_isDoor cX8_isDoor 2 (some .boolean), Cond.fieldLink RX8 7 "TokenDoorsModel" "state" "[I", Cond.methodLink RX8 53 yX8_in, Cond.static yX8_in, Cond.code yX8_in cX8_in 6 (some .boolean), Cond.methodLink RX8 186 yX8_copies, Cond.instanceMethod yX8_copies, Cond.selects RX8 yX8_copies yX8_copies, Cond.code yX8_copies cX8_copies 4 none, Cond.methodLink RX8 163 yX8_deepOn, Cond.instanceMethod yX8_deepOn, Cond.selects RX8 yX8_deepOn yX8_deepOn, Cond.code yX8_deepOn cX8_deepOn 4 none, Cond.methodLink RX8 217 yX8_isAsSeen, Cond.instanceMethod yX8_isAsSeen, Cond.selects RX8 yX8_isAsSeen yX8_isAsSeen, Cond.code yX8_isAsSeen cX8_isAsSeen 7 (some .boolean), Cond.fieldLink RX8 35 "TokenDoorsModel" "letBy" "[I", Cond.fieldLink RX8 116 "TokenDoorsModel" "seenMany" "I", Cond.fieldLink RX8 32 "TokenDoorsModel" "seen" "[I"]
def wsX8_depths_r2 : List Cond := [Cond.methodLink RX8 180 yX8_starts, Cond.instanceMethod yX8_starts, Cond.selects RX8 yX8_starts yX8_starts, Cond.code yX8_starts cX8_starts 2 none, Cond.fieldLink RX8 121 "TokenDoorsModel" "let" "I", Cond.fieldLink RX8 124 "TokenDoorsModel" "turned" "I", Cond.fieldLink RX8 127 "TokenDoorsModel" "badTicks" "I", Cond.fieldLink RX8 130 "TokenDoorsModel" "worstTick" "I", Cond.fieldLink RX8 29 "TokenDoorsModel" "turnedBy" "[I", Cond.methodLink RX8 183 yX8_goesOn, Cond.instanceMethod yX8_goesOn, Cond.selects RX8 yX8_goesOn yX8_goesOn, Cond.code yX8_goesOn cX8_goesOn 2 (some .int), Cond.methodLink RX8 144 yX8_comeOn, Cond.instanceMethod yX8_comeOn, Cond.selects RX8 yX8_comeOn yX8_comeOn, Cond.code yX8_comeOn cX8_comeOn 6 (some .int), Cond.methodLink RX8 147 yX8_tickOn, Cond.instanceMethod yX8_tickOn, Cond.selects RX8 yX8_tickOn yX8_tickOn, Cond.code yX8_tickOn cX8_tickOn 6 (some .int), Cond.fieldLink RX8 25 "TokenDoorsModel" "opened" "I", Cond.methodLink RX8 137 yX8_passOn, Cond.instanceMethod yX8_passOn]
def wsX8_depths_r3 : List Cond := [Cond.selects RX8 yX8_passOn yX8_passOn, Cond.code yX8_passOn cX8_passOn 3 (some .int), Cond.constant RX8 136 (99999), Cond.methodLink RX8 133 yX8_roomOn, Cond.instanceMethod yX8_roomOn, Cond.selects RX8 yX8_roomOn yX8_roomOn, Cond.code yX8_roomOn cX8_roomOn 4 (some .int), Cond.methodLink RX8 140 yX8_settlesOn, Cond.instanceMethod yX8_settlesOn, Cond.selects RX8 yX8_settlesOn yX8_settlesOn, Cond.code yX8_settlesOn cX8_settlesOn 7 none]
def wsX8_depths : List Cond := .code yX8_depths cX8_depths 4 (some .int) :: ((wsX8_depths_r1 ++ (wsX8_depths_r2 ++ wsX8_depths_r3)) ++ wsX80)
def wsX8_ratesOf_r1 : List Cond := [Cond.fieldLink RX8 7 "TokenDoorsModel" "state" "[I", Cond.methodLink RX8 186 yX8_copies, Cond.instanceMethod yX8_copies, Cond.selects RX8 yX8_copies yX8_copies, Cond.initialized RX8, Cond.code yX8_copies cX8_copies 4 none, Cond.methodLink RX8 217 yX8_isAsSeen, Cond.instanceMethod yX8_isAsSeen, Cond.selects RX8 yX8_isAsSeen yX8_isAsSeen, Cond.code yX8_isAsSeen cX8_isAsSeen 7 (some .boolean), Cond.fieldLink RX8 35 "TokenDoorsModel" "letBy" "[I", Cond.fieldLink RX8 116 "TokenDoorsModel" "seenMany" "I", Cond.fieldLink RX8 32 "TokenDoorsModel" "seen" "[I", Cond.methodLink RX8 180 yX8_starts, Cond.instanceMethod yX8_starts, Cond.selects RX8 yX8_starts yX8_starts, Cond.code yX8_starts cX8_starts 2 none, Cond.fieldLink RX8 121 "TokenDoorsModel" "let" "I", Cond.fieldLink RX8 124 "TokenDoorsModel" "turned" "I", Cond.fieldLink RX8 127 "TokenDoorsModel" "badTicks" "I", Cond.fieldLink RX8 130 "TokenDoorsModel" "worstTick" "I", Cond.fieldLink RX8 29 "TokenDoorsModel" "turnedBy" "[I", Cond.methodLink RX8 183 yX8_goesOn, Cond.instanceMethod yX8_goesOn]
def wsX8_ratesOf_r2 : List Cond := [Cond.selects RX8 yX8_goesOn yX8_goesOn, Cond.code yX8_goesOn cX8_goesOn 2 (some .int), Cond.methodLink RX8 144 yX8_comeOn, Cond.instanceMethod yX8_comeOn, Cond.selects RX8 yX8_comeOn yX8_comeOn, Cond.code yX8_comeOn cX8_comeOn 6 (some .int), Cond.methodLink RX8 147 yX8_tickOn, Cond.instanceMethod yX8_tickOn, Cond.selects RX8 yX8_tickOn yX8_tickOn, Cond.code yX8_tickOn cX8_tickOn 6 (some .int), Cond.fieldLink RX8 25 "TokenDoorsModel" "opened" "I", Cond.methodLink RX8 137 yX8_passOn, Cond.instanceMethod yX8_passOn, Cond.selects RX8 yX8_passOn yX8_passOn, Cond.code yX8_passOn cX8_passOn 3 (some .int), Cond.constant RX8 136 (99999), Cond.methodLink RX8 133 yX8_roomOn, Cond.instanceMethod yX8_roomOn, Cond.selects RX8 yX8_roomOn yX8_roomOn, Cond.code yX8_roomOn cX8_roomOn 4 (some .int), Cond.methodLink RX8 140 yX8_settlesOn, Cond.instanceMethod yX8_settlesOn, Cond.selects RX8 yX8_settlesOn yX8_settlesOn, Cond.code yX8_settlesOn cX8_settlesOn 7 none]
def wsX8_ratesOf : List Cond := .code yX8_ratesOf cX8_ratesOf 4 (some .int) :: ((wsX8_ratesOf_r1 ++ wsX8_ratesOf_r2) ++ wsX80)
def wsX8_rates_r1 : List Cond := [Cond.methodLink RX8 150 yX8_isDoor, Cond.instanceMethod yX8_isDoor, Cond.selects RX8 yX8_isDoor yX8_isDoor, Cond.initialized RX8, Cond.code yX8_isDoor cX8_isDoor 2 (some .boolean), Cond.fieldLink RX8 7 "TokenDoorsModel" "state" "[I", Cond.methodLink RX8 53 yX8_in, Cond.static yX8_in, Cond.code yX8_in cX8_in 6 (some .boolean), Cond.methodLink RX8 221 yX8_ratesOf, Cond.instanceMethod yX8_ratesOf, Cond.selects RX8 yX8_ratesOf yX8_ratesOf, Cond.code yX8_ratesOf cX8_ratesOf 4 (some .int), Cond.methodLink RX8 186 yX8_copies, Cond.instanceMethod yX8_copies, Cond.selects RX8 yX8_copies yX8_copies, Cond.code yX8_copies cX8_copies 4 none, Cond.methodLink RX8 217 yX8_isAsSeen, Cond.instanceMethod yX8_isAsSeen, Cond.selects RX8 yX8_isAsSeen yX8_isAsSeen, Cond.code yX8_isAsSeen cX8_isAsSeen 7 (some .boolean), Cond.fieldLink RX8 35 "TokenDoorsModel" "letBy" "[I", Cond.fieldLink RX8 116 "TokenDoorsModel" "seenMany" "I", Cond.fieldLink RX8 32 "TokenDoorsModel" "seen" "[I"]
def wsX8_rates_r2 : List Cond := [Cond.methodLink RX8 180 yX8_starts, Cond.instanceMethod yX8_starts, Cond.selects RX8 yX8_starts yX8_starts, Cond.code yX8_starts cX8_starts 2 none, Cond.fieldLink RX8 121 "TokenDoorsModel" "let" "I", Cond.fieldLink RX8 124 "TokenDoorsModel" "turned" "I", Cond.fieldLink RX8 127 "TokenDoorsModel" "badTicks" "I", Cond.fieldLink RX8 130 "TokenDoorsModel" "worstTick" "I", Cond.fieldLink RX8 29 "TokenDoorsModel" "turnedBy" "[I", Cond.methodLink RX8 183 yX8_goesOn, Cond.instanceMethod yX8_goesOn, Cond.selects RX8 yX8_goesOn yX8_goesOn, Cond.code yX8_goesOn cX8_goesOn 2 (some .int), Cond.methodLink RX8 144 yX8_comeOn, Cond.instanceMethod yX8_comeOn, Cond.selects RX8 yX8_comeOn yX8_comeOn, Cond.code yX8_comeOn cX8_comeOn 6 (some .int), Cond.methodLink RX8 147 yX8_tickOn, Cond.instanceMethod yX8_tickOn, Cond.selects RX8 yX8_tickOn yX8_tickOn, Cond.code yX8_tickOn cX8_tickOn 6 (some .int), Cond.fieldLink RX8 25 "TokenDoorsModel" "opened" "I", Cond.methodLink RX8 137 yX8_passOn, Cond.instanceMethod yX8_passOn]
def wsX8_rates_r3 : List Cond := [Cond.selects RX8 yX8_passOn yX8_passOn, Cond.code yX8_passOn cX8_passOn 3 (some .int), Cond.constant RX8 136 (99999), Cond.methodLink RX8 133 yX8_roomOn, Cond.instanceMethod yX8_roomOn, Cond.selects RX8 yX8_roomOn yX8_roomOn, Cond.code yX8_roomOn cX8_roomOn 4 (some .int), Cond.methodLink RX8 140 yX8_settlesOn, Cond.instanceMethod yX8_settlesOn, Cond.selects RX8 yX8_settlesOn yX8_settlesOn, Cond.code yX8_settlesOn cX8_settlesOn 7 none]
def wsX8_rates : List Cond := .code yX8_rates cX8_rates 2 (some .int) :: ((wsX8_rates_r1 ++ (wsX8_rates_r2 ++ wsX8_rates_r3)) ++ wsX80)
def wsX8_worstAt : List Cond := .code yX8_worstAt cX8_worstAt 7 (some .int) :: ([.fieldLink RX8 35 "TokenDoorsModel" "letBy" "[I"] ++ wsX80)
def wsX8_ask_r1 : List Cond := [Cond.methodLink RX8 150 yX8_isDoor, Cond.instanceMethod yX8_isDoor, Cond.selects RX8 yX8_isDoor yX8_isDoor, Cond.initialized RX8, Cond.code yX8_isDoor cX8_isDoor 2 (some .boolean), Cond.fieldLink RX8 7 "TokenDoorsModel" "state" "[I", Cond.methodLink RX8 53 yX8_in, Cond.static yX8_in, Cond.code yX8_in cX8_in 6 (some .boolean), Cond.methodLink RX8 221 yX8_ratesOf, Cond.instanceMethod yX8_ratesOf, Cond.selects RX8 yX8_ratesOf yX8_ratesOf, Cond.code yX8_ratesOf cX8_ratesOf 4 (some .int), Cond.methodLink RX8 186 yX8_copies, Cond.instanceMethod yX8_copies, Cond.selects RX8 yX8_copies yX8_copies, Cond.code yX8_copies cX8_copies 4 none, Cond.methodLink RX8 217 yX8_isAsSeen, Cond.instanceMethod yX8_isAsSeen, Cond.selects RX8 yX8_isAsSeen yX8_isAsSeen, Cond.code yX8_isAsSeen cX8_isAsSeen 7 (some .boolean), Cond.fieldLink RX8 35 "TokenDoorsModel" "letBy" "[I", Cond.fieldLink RX8 116 "TokenDoorsModel" "seenMany" "I", Cond.fieldLink RX8 32 "TokenDoorsModel" "seen" "[I"]
def wsX8_ask_r2 : List Cond := [Cond.methodLink RX8 180 yX8_starts, Cond.instanceMethod yX8_starts, Cond.selects RX8 yX8_starts yX8_starts, Cond.code yX8_starts cX8_starts 2 none, Cond.fieldLink RX8 121 "TokenDoorsModel" "let" "I", Cond.fieldLink RX8 124 "TokenDoorsModel" "turned" "I", Cond.fieldLink RX8 127 "TokenDoorsModel" "badTicks" "I", Cond.fieldLink RX8 130 "TokenDoorsModel" "worstTick" "I", Cond.fieldLink RX8 29 "TokenDoorsModel" "turnedBy" "[I", Cond.methodLink RX8 183 yX8_goesOn, Cond.instanceMethod yX8_goesOn, Cond.selects RX8 yX8_goesOn yX8_goesOn, Cond.code yX8_goesOn cX8_goesOn 2 (some .int), Cond.methodLink RX8 144 yX8_comeOn, Cond.instanceMethod yX8_comeOn, Cond.selects RX8 yX8_comeOn yX8_comeOn, Cond.code yX8_comeOn cX8_comeOn 6 (some .int), Cond.methodLink RX8 147 yX8_tickOn, Cond.instanceMethod yX8_tickOn, Cond.selects RX8 yX8_tickOn yX8_tickOn, Cond.code yX8_tickOn cX8_tickOn 6 (some .int), Cond.fieldLink RX8 25 "TokenDoorsModel" "opened" "I", Cond.methodLink RX8 137 yX8_passOn, Cond.instanceMethod yX8_passOn]
def wsX8_ask_r3 : List Cond := [Cond.selects RX8 yX8_passOn yX8_passOn, Cond.code yX8_passOn cX8_passOn 3 (some .int), Cond.constant RX8 136 (99999), Cond.methodLink RX8 133 yX8_roomOn, Cond.instanceMethod yX8_roomOn, Cond.selects RX8 yX8_roomOn yX8_roomOn, Cond.code yX8_roomOn cX8_roomOn 4 (some .int), Cond.methodLink RX8 140 yX8_settlesOn, Cond.instanceMethod yX8_settlesOn, Cond.selects RX8 yX8_settlesOn yX8_settlesOn, Cond.code yX8_settlesOn cX8_settlesOn 7 none, Cond.methodLink RX8 224 yX8_worstAt, Cond.instanceMethod yX8_worstAt, Cond.selects RX8 yX8_worstAt yX8_worstAt, Cond.code yX8_worstAt cX8_worstAt 7 (some .int)]
def wsX8_ask : List Cond := .code yX8_ask cX8_ask 8 (some .int) :: ((wsX8_ask_r1 ++ (wsX8_ask_r2 ++ wsX8_ask_r3)) ++ wsX80)
def wsX8_drift_r1 : List Cond := [Cond.constantLong RX8 119 (100), Cond.fieldLink RX8 7 "TokenDoorsModel" "state" "[I", Cond.constant RX8 227 (1103515245), Cond.fieldLink RX8 121 "TokenDoorsModel" "let" "I", Cond.fieldLink RX8 124 "TokenDoorsModel" "turned" "I", Cond.methodLink RX8 53 yX8_in, Cond.static yX8_in, Cond.initialized RX8, Cond.code yX8_in cX8_in 6 (some .boolean), Cond.methodLink RX8 186 yX8_copies, Cond.instanceMethod yX8_copies, Cond.selects RX8 yX8_copies yX8_copies, Cond.code yX8_copies cX8_copies 4 none, Cond.methodLink RX8 180 yX8_starts, Cond.instanceMethod yX8_starts, Cond.selects RX8 yX8_starts yX8_starts, Cond.code yX8_starts cX8_starts 2 none, Cond.fieldLink RX8 127 "TokenDoorsModel" "badTicks" "I", Cond.fieldLink RX8 130 "TokenDoorsModel" "worstTick" "I", Cond.fieldLink RX8 29 "TokenDoorsModel" "turnedBy" "[I", Cond.methodLink RX8 147 yX8_tickOn, Cond.instanceMethod yX8_tickOn, Cond.selects RX8 yX8_tickOn yX8_tickOn, Cond.code yX8_tickOn cX8_tickOn 6 (some .int)]
def wsX8_drift_r2 : List Cond := [Cond.fieldLink RX8 25 "TokenDoorsModel" "opened" "I", Cond.methodLink RX8 137 yX8_passOn, Cond.instanceMethod yX8_passOn, Cond.selects RX8 yX8_passOn yX8_passOn, Cond.code yX8_passOn cX8_passOn 3 (some .int), Cond.constant RX8 136 (99999), Cond.methodLink RX8 133 yX8_roomOn, Cond.instanceMethod yX8_roomOn, Cond.selects RX8 yX8_roomOn yX8_roomOn, Cond.code yX8_roomOn cX8_roomOn 4 (some .int), Cond.methodLink RX8 140 yX8_settlesOn, Cond.instanceMethod yX8_settlesOn, Cond.selects RX8 yX8_settlesOn yX8_settlesOn, Cond.code yX8_settlesOn cX8_settlesOn 7 none]
def wsX8_drift : List Cond := .code yX8_drift cX8_drift 6 (some .int) :: ((wsX8_drift_r1 ++ wsX8_drift_r2) ++ wsX80)
def wsX8_keep : List Cond := .code yX8_keep cX8_keep 3 (some .int) :: ([.fieldLink RX8 38 "TokenDoorsModel" "isKept" "[Z", .methodLink RX8 53 yX8_in, .static yX8_in, .initialized RX8, .code yX8_in cX8_in 6 (some .boolean), .methodLink RX8 186 yX8_copies, .instanceMethod yX8_copies, .selects RX8 yX8_copies yX8_copies, .code yX8_copies cX8_copies 4 none, .fieldLink RX8 7 "TokenDoorsModel" "state" "[I"] ++ wsX80)
def wsX8_back : List Cond := .code yX8_back cX8_back 2 (some .int) :: ([.fieldLink RX8 38 "TokenDoorsModel" "isKept" "[Z", .fieldLink RX8 7 "TokenDoorsModel" "state" "[I", .methodLink RX8 53 yX8_in, .static yX8_in, .initialized RX8, .code yX8_in cX8_in 6 (some .boolean), .methodLink RX8 186 yX8_copies, .instanceMethod yX8_copies, .selects RX8 yX8_copies yX8_copies, .code yX8_copies cX8_copies 4 none] ++ wsX80)
def wsX8_sheet : List Cond := .code yX8_sheet cX8_sheet 5 (some .int) :: ([.constantLong RX8 159 (3), .constantLong RX8 157 (2), .fieldLink RX8 42 "TokenDoorsModel" "lanes" "[I", .fieldLink RX8 45 "TokenDoorsModel" "lengths" "[I", .fieldLink RX8 48 "TokenDoorsModel" "cells" "[I", .methodLink RX8 53 yX8_in, .static yX8_in, .initialized RX8, .code yX8_in cX8_in 6 (some .boolean)] ++ wsX80)
def wsX8_lay : List Cond := .code yX8_lay cX8_lay 4 (some .int) :: ([.constantLong RX8 159 (3), .fieldLink RX8 42 "TokenDoorsModel" "lanes" "[I", .fieldLink RX8 45 "TokenDoorsModel" "lengths" "[I", .fieldLink RX8 48 "TokenDoorsModel" "cells" "[I", .methodLink RX8 53 yX8_in, .static yX8_in, .initialized RX8, .code yX8_in cX8_in 6 (some .boolean)] ++ wsX80)
def wsX8_read : List Cond := .code yX8_read cX8_read 9 (some .int) :: ([.constantLong RX8 159 (3), .constantLong RX8 157 (2), .constantLong RX8 228 (13), .fieldLink RX8 42 "TokenDoorsModel" "lanes" "[I", .fieldLink RX8 45 "TokenDoorsModel" "lengths" "[I", .fieldLink RX8 48 "TokenDoorsModel" "cells" "[I", .fieldLink RX8 230 "TokenDoorsModel" "torn" "I", .methodLink RX8 53 yX8_in, .static yX8_in, .initialized RX8, .code yX8_in cX8_in 6 (some .boolean), .methodLink RX8 186 yX8_copies, .instanceMethod yX8_copies, .selects RX8 yX8_copies yX8_copies, .code yX8_copies cX8_copies 4 none, .fieldLink RX8 7 "TokenDoorsModel" "state" "[I", .methodLink RX8 173 yX8_comes, .instanceMethod yX8_comes, .selects RX8 yX8_comes yX8_comes, .code yX8_comes cX8_comes 5 (some .int), .constantLong RX8 171 (99), .constantLong RX8 161 (9)] ++ wsX80)
def wsX8_torn : List Cond := .code yX8_torn cX8_torn 1 (some .int) :: ([.fieldLink RX8 230 "TokenDoorsModel" "torn" "I"] ++ wsX80)
def wsX8_count : List Cond := .code yX8_count cX8_count 5 (some .int) :: ([.fieldLink RX8 7 "TokenDoorsModel" "state" "[I", .fieldLink RX8 116 "TokenDoorsModel" "seenMany" "I", .fieldLink RX8 38 "TokenDoorsModel" "isKept" "[Z", .fieldLink RX8 57 "TokenDoorsModel" "taped" "I", .fieldLink RX8 42 "TokenDoorsModel" "lanes" "[I", .fieldLink RX8 45 "TokenDoorsModel" "lengths" "[I"] ++ wsX80)
def wsJ9_max_7cf53 : List Cond := .code yJ9_max_7cf53 cJ9_max_7cf53 2 (some .int) :: ([])
def wsJ9_max_f86c9 : List Cond := .code yJ9_max_f86c9 cJ9_max_f86c9 4 (some .long) :: ([])
def wsJ9_min_7cf53 : List Cond := .code yJ9_min_7cf53 cJ9_min_7cf53 2 (some .int) :: ([])
def wsL_law_r1 : List Cond := [Cond.classLink RL 7 RX7, Cond.instantiable RX7 11, Cond.initialized RX7, Cond.classLink RL 10 RX8, Cond.instantiable RX8 27, Cond.initialized RX8, Cond.methodLink RL 9 yX7_init, Cond.instanceMethod yX7_init, Cond.code yX7_init cX7_init 2 none, Cond.methodLink RX7 1 objectInit, Cond.instanceMethod objectInit, Cond.code objectInit ⟨#[0xb1]⟩ 1 none, Cond.classLink RX7 7 RX2, Cond.instantiable RX2 7, Cond.initialized RX2, Cond.fieldLink RX7 10 "TokenDoors" "now" "LTokenDoors$Hall;", Cond.fieldLink RX7 16 "TokenDoors" "trial" "LTokenDoors$Hall;", Cond.fieldLink RX7 19 "TokenDoors" "images" "[LTokenDoors$Hall;", Cond.arrayClass .boolean, Cond.fieldLink RX7 23 "TokenDoors" "kept" "[Z", Cond.classLink RX7 27 RX5, Cond.instantiable RX5 5, Cond.initialized RX5, Cond.fieldLink RX7 30 "TokenDoors" "tape" "LTokenDoors$Tape;"]
def wsL_law_r2 : List Cond := [Cond.classLink RX7 34 RX6, Cond.instantiable RX6 3, Cond.initialized RX6, Cond.fieldLink RX7 39 "TokenDoors" "teller" "LTokenDoors$Teller;", Cond.classLink RX7 43 RX3, Cond.instantiable RX3 3, Cond.initialized RX3, Cond.fieldLink RX7 46 "TokenDoors" "seen" "LTokenDoors$Seen;", Cond.classLink RX7 50 RX4, Cond.fieldLink RX7 52 "TokenDoors" "sheets" "[LTokenDoors$Sheet;", Cond.classLink RX7 56 "[[I", Cond.arrayClass .int, Cond.fieldLink RX7 58 "TokenDoors" "letByRate" "[[I", Cond.fieldLink RX7 61 "TokenDoors" "letByTick" "[I", Cond.instantiable RX4 4, Cond.initialized RX4, Cond.methodLink RX7 9 yX2_init, Cond.instanceMethod yX2_init, Cond.code yX2_init cX2_init 2 none, Cond.methodLink RX2 3 objectInit, Cond.classLink RX2 9 RX1, Cond.fieldLink RX2 11 "TokenDoors$Hall" "doors" "[LTokenDoors$Door;", Cond.classLink RX2 17 RX0, Cond.fieldLink RX2 19 "TokenDoors$Hall" "crowds" "[LTokenDoors$Crowd;"]
def wsL_law_r3 : List Cond := [Cond.instantiable RX1 6, Cond.initialized RX1, Cond.instantiable RX0 3, Cond.initialized RX0, Cond.methodLink RX2 23 yX1_init, Cond.instanceMethod yX1_init, Cond.code yX1_init cX1_init 1 none, Cond.methodLink RX1 3 objectInit, Cond.methodLink RX2 24 yX0_init, Cond.instanceMethod yX0_init, Cond.code yX0_init cX0_init 1 none, Cond.methodLink RX0 1 objectInit, Cond.methodLink RX7 29 yX5_init, Cond.instanceMethod yX5_init, Cond.code yX5_init cX5_init 1 none, Cond.methodLink RX5 3 objectInit, Cond.arrayClass .byte, Cond.fieldLink RX5 9 "TokenDoors$Tape" "bytes" "[B", Cond.methodLink RX7 36 yX6_init, Cond.instanceMethod yX6_init, Cond.code yX6_init cX6_init 3 none, Cond.methodLink RX6 3 objectInit, Cond.fieldLink RX6 9 "TokenDoors$Teller" "tape" "LTokenDoors$Tape;", Cond.fieldLink RX6 15 "TokenDoors$Teller" "draft" "LTokenDoors$Hall;"]
def wsL_law_r4 : List Cond := [Cond.methodLink RX7 45 yX3_init, Cond.instanceMethod yX3_init, Cond.code yX3_init cX3_init 1 none, Cond.methodLink RX3 3 objectInit, Cond.fieldLink RX3 9 "TokenDoors$Seen" "inTick" "[I", Cond.fieldLink RX3 15 "TokenDoors$Seen" "let" "[I", Cond.methodLink RX7 65 yX4_init, Cond.instanceMethod yX4_init, Cond.code yX4_init cX4_init 1 none, Cond.methodLink RX4 3 objectInit, Cond.fieldLink RX4 9 "TokenDoors$Sheet" "cells" "[I", Cond.methodLink RL 12 yX8_init, Cond.instanceMethod yX8_init, Cond.code yX8_init cX8_init 1 none, Cond.methodLink RX8 1 objectInit, Cond.fieldLink RX8 7 "TokenDoorsModel" "state" "[I", Cond.fieldLink RX8 13 "TokenDoorsModel" "readPage" "[I", Cond.fieldLink RX8 16 "TokenDoorsModel" "tape" "[I", Cond.fieldLink RX8 19 "TokenDoorsModel" "ends" "[I", Cond.fieldLink RX8 22 "TokenDoorsModel" "letters" "[I", Cond.fieldLink RX8 25 "TokenDoorsModel" "opened" "I", Cond.fieldLink RX8 29 "TokenDoorsModel" "turnedBy" "[I", Cond.fieldLink RX8 32 "TokenDoorsModel" "seen" "[I", Cond.fieldLink RX8 35 "TokenDoorsModel" "letBy" "[I"]
def wsL_law_r5 : List Cond := [Cond.fieldLink RX8 38 "TokenDoorsModel" "isKept" "[Z", Cond.fieldLink RX8 42 "TokenDoorsModel" "lanes" "[I", Cond.fieldLink RX8 45 "TokenDoorsModel" "lengths" "[I", Cond.fieldLink RX8 48 "TokenDoorsModel" "cells" "[I", Cond.methodLink RL 13 yX7_feed, Cond.instanceMethod yX7_feed, Cond.selects RX7 yX7_feed yX7_feed, Cond.code yX7_feed cX7_feed 2 (some .int), Cond.fieldLink RX7 70 "TokenDoors$Tape" "length" "I", Cond.methodLink RX7 66 yX5_append, Cond.instanceMethod yX5_append, Cond.selects RX5 yX5_append yX5_append, Cond.code yX5_append cX5_append 2 (some .boolean), Cond.fieldLink RX5 15 "TokenDoors$Tape" "length" "I", Cond.methodLink RL 17 yX8_feed, Cond.instanceMethod yX8_feed, Cond.selects RX8 yX8_feed yX8_feed, Cond.code yX8_feed cX8_feed 2 (some .int), Cond.constantLong RX8 51 (127), Cond.fieldLink RX8 57 "TokenDoorsModel" "taped" "I", Cond.methodLink RX8 53 yX8_in, Cond.static yX8_in, Cond.code yX8_in cX8_in 6 (some .boolean), Cond.methodLink RL 18 yX7_end]
def wsL_law_r6 : List Cond := [Cond.instanceMethod yX7_end, Cond.selects RX7 yX7_end yX7_end, Cond.code yX7_end cX7_end 3 (some .int), Cond.methodLink RL 21 yX8_end, Cond.instanceMethod yX8_end, Cond.selects RX8 yX8_end yX8_end, Cond.code yX8_end cX8_end 3 (some .int), Cond.methodLink RL 22 yX7_text, Cond.instanceMethod yX7_text, Cond.selects RX7 yX7_text yX7_text, Cond.code yX7_text cX7_text 3 (some .int), Cond.fieldLink RX7 78 "TokenDoors$Teller" "found" "I", Cond.fieldLink RX7 81 "TokenDoors$Tape" "start" "I", Cond.fieldLink RX7 88 "TokenDoors$Seen" "size" "I", Cond.methodLink RX7 74 yX6_tellAll, Cond.instanceMethod yX6_tellAll, Cond.selects RX6 yX6_tellAll yX6_tellAll, Cond.code yX6_tellAll cX6_tellAll 4 (some .int), Cond.fieldLink RX6 24 "TokenDoors$Teller" "found" "I", Cond.fieldLink RX6 28 "TokenDoors$Tape" "next" "I", Cond.methodLink RX6 19 yX2_clear, Cond.instanceMethod yX2_clear, Cond.selects RX2 yX2_clear yX2_clear, Cond.code yX2_clear cX2_clear 1 none]
def wsL_law_r7 : List Cond := [Cond.fieldLink RX2 25 "TokenDoors$Hall" "doorCount" "I", Cond.fieldLink RX2 29 "TokenDoors$Hall" "crowdCount" "I", Cond.fieldLink RX2 32 "TokenDoors$Hall" "tick" "I", Cond.fieldLink RX2 35 "TokenDoors$Hall" "let" "I", Cond.fieldLink RX2 38 "TokenDoors$Hall" "turned" "I", Cond.methodLink RX6 33 yX5_advance, Cond.instanceMethod yX5_advance, Cond.selects RX5 yX5_advance yX5_advance, Cond.code yX5_advance cX5_advance 1 (some .int), Cond.fieldLink RX5 19 "TokenDoors$Tape" "next" "I", Cond.fieldLink RX5 22 "TokenDoors$Tape" "start" "I", Cond.methodLink RX5 25 yX5_isLetter, Cond.static yX5_isLetter, Cond.code yX5_isLetter cX5_isLetter 1 (some .boolean), Cond.methodLink RX5 29 yX5_takeName, Cond.instanceMethod yX5_takeName, Cond.selects RX5 yX5_takeName yX5_takeName, Cond.code yX5_takeName cX5_takeName 1 (some .int), Cond.methodLink RX5 33 yX5_isFigure, Cond.static yX5_isFigure, Cond.code yX5_isFigure cX5_isFigure 1 (some .boolean), Cond.methodLink RX5 36 yX5_takeNumber, Cond.instanceMethod yX5_takeNumber, Cond.selects RX5 yX5_takeNumber yX5_takeNumber]
def wsL_law_r8 : List Cond := [Cond.code yX5_takeNumber cX5_takeNumber 1 (some .int), Cond.fieldLink RX5 39 "TokenDoors$Tape" "value" "I", Cond.methodLink RX6 37 yX6_tellLine, Cond.instanceMethod yX6_tellLine, Cond.selects RX6 yX6_tellLine yX6_tellLine, Cond.code yX6_tellLine cX6_tellLine 3 (some .boolean), Cond.methodLink RX6 41 yX6_expect, Cond.instanceMethod yX6_expect, Cond.selects RX6 yX6_expect yX6_expect, Cond.code yX6_expect cX6_expect 3 (some .boolean), Cond.methodLink RX6 48 yX6_fail, Cond.instanceMethod yX6_fail, Cond.selects RX6 yX6_fail yX6_fail, Cond.code yX6_fail cX6_fail 2 (some .boolean), Cond.methodLink RX6 45 yX6_lineBegun, Cond.instanceMethod yX6_lineBegun, Cond.selects RX6 yX6_lineBegun yX6_lineBegun, Cond.code yX6_lineBegun cX6_lineBegun 1 (some .int), Cond.methodLink RX6 60 yX5_nameIs, Cond.instanceMethod yX5_nameIs, Cond.selects RX5 yX5_nameIs yX5_nameIs, Cond.code yX5_nameIs cX5_nameIs 3 (some .boolean), Cond.methodLink RX5 42 yJ0_length_8abf5, Cond.instanceMethod yJ0_length_8abf5]
def wsL_law_r9 : List Cond := [Cond.selects RJ0 yJ0_length_8abf5 yJ0_length_8abf5, Cond.initialized RJ0, Cond.code yJ0_length_8abf5 cJ0_length_8abf5 1 (some .int), Cond.fieldLink RJ0 9 "java/lang/String" "value" "[B", Cond.methodLink RJ0 335 yJ0_coder_7d493, Cond.instanceMethod yJ0_coder_7d493, Cond.selects RJ0 yJ0_coder_7d493 yJ0_coder_7d493, Cond.code yJ0_coder_7d493 cJ0_coder_7d493 1 (some .byte), Cond.fieldLink RJ0 38 "java/lang/String" "COMPACT_STRINGS" "Z", Cond.fieldLink RJ0 15 "java/lang/String" "coder" "B", Cond.methodLink RX5 46 yJ0_charAt_5068e, Cond.instanceMethod yJ0_charAt_5068e, Cond.selects RJ0 yJ0_charAt_5068e yJ0_charAt_5068e, Cond.code yJ0_charAt_5068e cJ0_charAt_5068e 2 (some .char), Cond.methodLink RJ0 492 yJ0_isLatin1_aae02, Cond.instanceMethod yJ0_isLatin1_aae02, Cond.selects RJ0 yJ0_isLatin1_aae02 yJ0_isLatin1_aae02, Cond.code yJ0_isLatin1_aae02 cJ0_isLatin1_aae02 1 (some .boolean), Cond.methodLink RJ0 495 yJ1_charAt_3b067, Cond.static yJ1_charAt_3b067, Cond.initialized RJ1, Cond.code yJ1_charAt_3b067 cJ1_charAt_3b067 2 (some .char), Cond.methodLink RJ1 9 yJ0_checkIndex_df160, Cond.static yJ0_checkIndex_df160]
def wsL_law_r10 : List Cond := [Cond.code yJ0_checkIndex_df160 cJ0_checkIndex_df160 2 none, Cond.fieldLink RJ0 1053 "jdk/internal/util/Preconditions" "SIOOBE_FORMATTER" "Ljava/util/function/BiFunction;", Cond.methodLink RJ0 1059 yJ3_checkIndex_8e157, Cond.static yJ3_checkIndex_8e157, Cond.initialized RJ3, Cond.code yJ3_checkIndex_8e157 cJ3_checkIndex_8e157 3 (some .int), Cond.methodLink RJ0 498 yJ2_charAt_3b067, Cond.static yJ2_charAt_3b067, Cond.initialized RJ2, Cond.code yJ2_charAt_3b067 cJ2_charAt_3b067 2 (some .char), Cond.methodLink RJ2 67 yJ2_checkIndex_2214a, Cond.static yJ2_checkIndex_2214a, Cond.code yJ2_checkIndex_2214a cJ2_checkIndex_2214a 2 none, Cond.methodLink RJ2 48 yJ2_length_9d52b, Cond.static yJ2_length_9d52b, Cond.code yJ2_length_9d52b cJ2_length_9d52b 1 (some .int), Cond.methodLink RJ2 414 yJ0_checkIndex_df160, Cond.methodLink RJ2 71 yJ2_getChar_3b067, Cond.static yJ2_getChar_3b067, Cond.code yJ2_getChar_3b067 cJ2_getChar_3b067 2 (some .char), Cond.fieldLink RJ2 44 "java/lang/StringUTF16" "$assertionsDisabled" "Z", Cond.fieldLink RJ2 59 "java/lang/StringUTF16" "HI_BYTE_SHIFT" "I", Cond.fieldLink RJ2 63 "java/lang/StringUTF16" "LO_BYTE_SHIFT" "I", Cond.methodLink RX6 51 yX6_tellCrowd]
def wsL_law_r11 : List Cond := [Cond.instanceMethod yX6_tellCrowd, Cond.selects RX6 yX6_tellCrowd yX6_tellCrowd, Cond.code yX6_tellCrowd cX6_tellCrowd 4 (some .boolean), Cond.fieldLink RX6 88 "TokenDoors$Hall" "crowdCount" "I", Cond.fieldLink RX6 78 "TokenDoors$Tape" "value" "I", Cond.methodLink RX6 75 yX6_takeNumber, Cond.instanceMethod yX6_takeNumber, Cond.selects RX6 yX6_takeNumber yX6_takeNumber, Cond.code yX6_takeNumber cX6_takeNumber 3 (some .boolean), Cond.methodLink RX6 81 yX6_takeStop, Cond.instanceMethod yX6_takeStop, Cond.selects RX6 yX6_takeStop yX6_takeStop, Cond.code yX6_takeStop cX6_takeStop 1 (some .boolean), Cond.methodLink RX6 91 yX2_addCrowd, Cond.instanceMethod yX2_addCrowd, Cond.selects RX2 yX2_addCrowd yX2_addCrowd, Cond.code yX2_addCrowd cX2_addCrowd 4 (some .boolean), Cond.methodLink RX2 54 yX0_make, Cond.instanceMethod yX0_make, Cond.selects RX0 yX0_make yX0_make, Cond.code yX0_make cX0_make 4 none, Cond.fieldLink RX0 7 "TokenDoors$Crowd" "start" "I", Cond.fieldLink RX0 13 "TokenDoors$Crowd" "many" "I", Cond.fieldLink RX0 16 "TokenDoors$Crowd" "every" "I"]
def wsL_law_r12 : List Cond := [Cond.methodLink RX6 55 yX6_tellDoor, Cond.instanceMethod yX6_tellDoor, Cond.selects RX6 yX6_tellDoor yX6_tellDoor, Cond.code yX6_tellDoor cX6_tellDoor 4 (some .boolean), Cond.fieldLink RX6 72 "TokenDoors$Hall" "doorCount" "I", Cond.methodLink RX6 84 yX2_addDoor, Cond.instanceMethod yX2_addDoor, Cond.selects RX2 yX2_addDoor yX2_addDoor, Cond.code yX2_addDoor cX2_addDoor 4 (some .boolean), Cond.methodLink RX2 61 yX1_make, Cond.instanceMethod yX1_make, Cond.selects RX1 yX1_make yX1_make, Cond.code yX1_make cX1_make 4 none, Cond.fieldLink RX1 9 "TokenDoors$Door" "kind" "I", Cond.fieldLink RX1 15 "TokenDoors$Door" "depth" "I", Cond.fieldLink RX1 18 "TokenDoors$Door" "rate" "I", Cond.fieldLink RX1 21 "TokenDoors$Door" "holds" "I", Cond.methodLink RX7 84 yX2_become, Cond.instanceMethod yX2_become, Cond.selects RX2 yX2_become yX2_become, Cond.code yX2_become cX2_become 4 none, Cond.fieldLink RX2 45 "TokenDoors$Crowd" "start" "I", Cond.fieldLink RX2 48 "TokenDoors$Crowd" "many" "I", Cond.fieldLink RX2 51 "TokenDoors$Crowd" "every" "I"]
def wsL_law_r13 : List Cond := [Cond.methodLink RX2 41 yX1_become, Cond.instanceMethod yX1_become, Cond.selects RX1 yX1_become yX1_become, Cond.code yX1_become cX1_become 2 none, Cond.methodLink RL 26 yX8_text, Cond.instanceMethod yX8_text, Cond.selects RX8 yX8_text yX8_text, Cond.code yX8_text cX8_text 3 (some .int), Cond.fieldLink RX8 60 "TokenDoorsModel" "broken" "I", Cond.fieldLink RX8 72 "TokenDoorsModel" "spot" "I", Cond.fieldLink RX8 69 "TokenDoorsModel" "token" "I", Cond.fieldLink RX8 113 "TokenDoorsModel" "fault" "I", Cond.fieldLink RX8 66 "TokenDoorsModel" "brokenAt" "I", Cond.fieldLink RX8 116 "TokenDoorsModel" "seenMany" "I", Cond.methodLink RX8 94 yX8_step, Cond.instanceMethod yX8_step, Cond.selects RX8 yX8_step yX8_step, Cond.code yX8_step cX8_step 2 none, Cond.fieldLink RX8 63 "TokenDoorsModel" "here" "I", Cond.fieldLink RX8 79 "TokenDoorsModel" "value" "I", Cond.constantLong RX8 82 (97), Cond.constantLong RX8 84 (122), Cond.constantLong RX8 86 (48), Cond.constantLong RX8 88 (57)]
def wsL_law_r14 : List Cond := [Cond.methodLink RX8 75 yX8_byteAt, Cond.instanceMethod yX8_byteAt, Cond.selects RX8 yX8_byteAt yX8_byteAt, Cond.code yX8_byteAt cX8_byteAt 2 (some .int), Cond.methodLink RX8 90 yX8_fails, Cond.instanceMethod yX8_fails, Cond.selects RX8 yX8_fails yX8_fails, Cond.code yX8_fails cX8_fails 2 none, Cond.methodLink RX8 110 yX8_readLine, Cond.instanceMethod yX8_readLine, Cond.selects RX8 yX8_readLine yX8_readLine, Cond.code yX8_readLine cX8_readLine 2 none, Cond.constantLong RX8 105 (4), Cond.methodLink RX8 101 yX8_nameHere, Cond.instanceMethod yX8_nameHere, Cond.selects RX8 yX8_nameHere yX8_nameHere, Cond.code yX8_nameHere cX8_nameHere 4 (some .int), Cond.methodLink RX8 107 yX8_readMore, Cond.instanceMethod yX8_readMore, Cond.selects RX8 yX8_readMore yX8_readMore, Cond.code yX8_readMore cX8_readMore 3 none, Cond.methodLink RX8 97 yX8_number, Cond.instanceMethod yX8_number, Cond.selects RX8 yX8_number yX8_number]
def wsL_law_r15 : List Cond := [Cond.code yX8_number cX8_number 4 (some .int), Cond.methodLink RL 27 yX7_fault, Cond.instanceMethod yX7_fault, Cond.selects RX7 yX7_fault yX7_fault, Cond.code yX7_fault cX7_fault 1 (some .int), Cond.methodLink RL 30 yX8_fault, Cond.instanceMethod yX8_fault, Cond.selects RX8 yX8_fault yX8_fault, Cond.code yX8_fault cX8_fault 1 (some .int), Cond.methodLink RL 31 yX7_rule, Cond.instanceMethod yX7_rule, Cond.selects RX7 yX7_rule yX7_rule, Cond.code yX7_rule cX7_rule 2 (some .int), Cond.fieldLink RX7 91 "TokenDoors$Hall" "doorCount" "I", Cond.fieldLink RX7 94 "TokenDoors$Hall" "crowdCount" "I", Cond.fieldLink RX7 97 "TokenDoors$Hall" "tick" "I", Cond.fieldLink RX7 100 "TokenDoors$Hall" "let" "I", Cond.fieldLink RX7 103 "TokenDoors$Hall" "turned" "I", Cond.methodLink RX7 106 yX2_comers, Cond.instanceMethod yX2_comers, Cond.selects RX2 yX2_comers yX2_comers, Cond.code yX2_comers cX2_comers 3 (some .int), Cond.methodLink RX2 62 yX0_comesAt, Cond.instanceMethod yX0_comesAt]
def wsL_law_r16 : List Cond := [Cond.selects RX0 yX0_comesAt yX0_comesAt, Cond.code yX0_comesAt cX0_comesAt 2 (some .boolean), Cond.methodLink RX7 109 yX2_letters, Cond.instanceMethod yX2_letters, Cond.selects RX2 yX2_letters yX2_letters, Cond.code yX2_letters cX2_letters 3 (some .int), Cond.methodLink RX2 66 yX1_room, Cond.instanceMethod yX1_room, Cond.selects RX1 yX1_room yX1_room, Cond.code yX1_room cX1_room 1 (some .int), Cond.methodLink RL 34 yX8_rule, Cond.instanceMethod yX8_rule, Cond.selects RX8 yX8_rule yX8_rule, Cond.code yX8_rule cX8_rule 4 (some .int), Cond.methodLink RX8 133 yX8_roomOn, Cond.instanceMethod yX8_roomOn, Cond.selects RX8 yX8_roomOn yX8_roomOn, Cond.code yX8_roomOn cX8_roomOn 4 (some .int), Cond.methodLink RX8 144 yX8_comeOn, Cond.instanceMethod yX8_comeOn, Cond.selects RX8 yX8_comeOn yX8_comeOn, Cond.code yX8_comeOn cX8_comeOn 6 (some .int), Cond.methodLink RL 35 yX7_door, Cond.instanceMethod yX7_door]
def wsL_law_r17 : List Cond := [Cond.selects RX7 yX7_door yX7_door, Cond.code yX7_door cX7_door 3 (some .int), Cond.fieldLink RX7 115 "TokenDoors$Hall" "doors" "[LTokenDoors$Door;", Cond.methodLink RX7 112 yX7_isDoor, Cond.instanceMethod yX7_isDoor, Cond.selects RX7 yX7_isDoor yX7_isDoor, Cond.code yX7_isDoor cX7_isDoor 2 (some .boolean), Cond.methodLink RX7 119 yX1_room, Cond.methodLink RX7 124 yX1_told, Cond.instanceMethod yX1_told, Cond.selects RX1 yX1_told yX1_told, Cond.code yX1_told cX1_told 2 (some .int), Cond.methodLink RL 39 yX8_door, Cond.instanceMethod yX8_door, Cond.selects RX8 yX8_door yX8_door, Cond.code yX8_door cX8_door 3 (some .int), Cond.methodLink RX8 150 yX8_isDoor, Cond.instanceMethod yX8_isDoor, Cond.selects RX8 yX8_isDoor yX8_isDoor, Cond.code yX8_isDoor cX8_isDoor 2 (some .boolean), Cond.methodLink RL 40 yX7_crowd, Cond.instanceMethod yX7_crowd, Cond.selects RX7 yX7_crowd yX7_crowd, Cond.code yX7_crowd cX7_crowd 3 (some .int)]
def wsL_law_r18 : List Cond := [Cond.fieldLink RX7 128 "TokenDoors$Hall" "crowds" "[LTokenDoors$Crowd;", Cond.fieldLink RX7 132 "TokenDoors$Crowd" "start" "I", Cond.fieldLink RX7 135 "TokenDoors$Crowd" "many" "I", Cond.fieldLink RX7 138 "TokenDoors$Crowd" "every" "I", Cond.methodLink RL 43 yX8_crowd, Cond.instanceMethod yX8_crowd, Cond.selects RX8 yX8_crowd yX8_crowd, Cond.code yX8_crowd cX8_crowd 3 (some .int), Cond.constantLong RX8 157 (2), Cond.methodLink RX8 154 yX8_isCrowd, Cond.instanceMethod yX8_isCrowd, Cond.selects RX8 yX8_isCrowd yX8_isCrowd, Cond.code yX8_isCrowd cX8_isCrowd 2 (some .boolean), Cond.methodLink RL 44 yX7_alter, Cond.instanceMethod yX7_alter, Cond.selects RX7 yX7_alter yX7_alter, Cond.code yX7_alter cX7_alter 6 (some .int), Cond.fieldLink RX7 145 "TokenDoors$Door" "depth" "I", Cond.methodLink RX7 141 yX7_mayBecome, Cond.static yX7_mayBecome, Cond.code yX7_mayBecome cX7_mayBecome 2 (some .boolean), Cond.methodLink RX7 293 yX7_lowest, Cond.static yX7_lowest, Cond.code yX7_lowest cX7_lowest 1 (some .int)]
def wsL_law_r19 : List Cond := [Cond.methodLink RX7 296 yX7_highest, Cond.static yX7_highest, Cond.code yX7_highest cX7_highest 1 (some .int), Cond.methodLink RX7 148 yX1_change, Cond.instanceMethod yX1_change, Cond.selects RX1 yX1_change yX1_change, Cond.code yX1_change cX1_change 3 none, Cond.methodLink RX1 31 Lib.Math.min.name, Cond.static Lib.Math.min.name, Cond.initialized "java/lang/Math", Cond.code Lib.Math.min.name Lib.Math.min.code 2 (some .int), Cond.methodLink RL 48 yX8_alter, Cond.instanceMethod yX8_alter, Cond.selects RX8 yX8_alter yX8_alter, Cond.code yX8_alter cX8_alter 6 (some .int), Cond.constantLong RX8 159 (3), Cond.constantLong RX8 161 (9), Cond.methodLink RX8 163 yX8_deepOn, Cond.instanceMethod yX8_deepOn, Cond.selects RX8 yX8_deepOn yX8_deepOn, Cond.code yX8_deepOn cX8_deepOn 4 none, Cond.methodLink RL 49 yX7_hang, Cond.instanceMethod yX7_hang, Cond.selects RX7 yX7_hang yX7_hang]
def wsL_law_r20 : List Cond := [Cond.code yX7_hang cX7_hang 4 (some .int), Cond.methodLink RX7 152 yX2_addDoor, Cond.methodLink RL 52 yX8_hang, Cond.instanceMethod yX8_hang, Cond.selects RX8 yX8_hang yX8_hang, Cond.code yX8_hang cX8_hang 5 (some .int), Cond.methodLink RL 53 yX7_cut, Cond.instanceMethod yX7_cut, Cond.selects RX7 yX7_cut yX7_cut, Cond.code yX7_cut cX7_cut 3 (some .int), Cond.methodLink RL 56 yX8_cut, Cond.instanceMethod yX8_cut, Cond.selects RX8 yX8_cut yX8_cut, Cond.code yX8_cut cX8_cut 2 (some .int), Cond.methodLink RX8 167 yX8_puts, Cond.instanceMethod yX8_puts, Cond.selects RX8 yX8_puts yX8_puts, Cond.code yX8_puts cX8_puts 5 (some .int), Cond.methodLink RL 57 yX7_come, Cond.instanceMethod yX7_come, Cond.selects RX7 yX7_come yX7_come, Cond.code yX7_come cX7_come 4 (some .int), Cond.methodLink RX7 156 yX7_isCrowd, Cond.static yX7_isCrowd]
def wsL_law_r21 : List Cond := [Cond.code yX7_isCrowd cX7_isCrowd 3 (some .boolean), Cond.methodLink RX7 159 yX2_addCrowd, Cond.methodLink RL 60 yX8_come, Cond.instanceMethod yX8_come, Cond.selects RX8 yX8_come yX8_come, Cond.code yX8_come cX8_come 4 (some .int), Cond.methodLink RX8 173 yX8_comes, Cond.instanceMethod yX8_comes, Cond.selects RX8 yX8_comes yX8_comes, Cond.code yX8_comes cX8_comes 5 (some .int), Cond.constantLong RX8 171 (99), Cond.methodLink RL 61 yX7_leave, Cond.instanceMethod yX7_leave, Cond.selects RX7 yX7_leave yX7_leave, Cond.code yX7_leave cX7_leave 3 (some .int), Cond.methodLink RL 64 yX8_leave, Cond.instanceMethod yX8_leave, Cond.selects RX8 yX8_leave yX8_leave, Cond.code yX8_leave cX8_leave 2 (some .int), Cond.methodLink RL 65 yX7_pass, Cond.instanceMethod yX7_pass, Cond.selects RX7 yX7_pass yX7_pass, Cond.code yX7_pass cX7_pass 2 (some .int), Cond.methodLink RX7 162 yX2_firstShut]
def wsL_law_r22 : List Cond := [Cond.instanceMethod yX2_firstShut, Cond.selects RX2 yX2_firstShut yX2_firstShut, Cond.code yX2_firstShut cX2_firstShut 2 (some .int), Cond.methodLink RX7 165 yX2_admit, Cond.instanceMethod yX2_admit, Cond.selects RX2 yX2_admit yX2_admit, Cond.code yX2_admit cX2_admit 4 (some .int), Cond.constant RX2 74 (99999), Cond.methodLink RX2 75 Lib.Math.min.name, Cond.methodLink RX2 70 yX1_admit, Cond.instanceMethod yX1_admit, Cond.selects RX1 yX1_admit yX1_admit, Cond.code yX1_admit cX1_admit 3 (some .int), Cond.fieldLink RX1 27 "TokenDoors$Door" "standsOpen" "Z", Cond.fieldLink RX1 24 "TokenDoors$Door" "refused" "I", Cond.methodLink RX1 37 yX1_room, Cond.methodLink RL 68 yX8_pass, Cond.instanceMethod yX8_pass, Cond.selects RX8 yX8_pass yX8_pass, Cond.code yX8_pass cX8_pass 1 (some .int), Cond.methodLink RX8 137 yX8_passOn, Cond.instanceMethod yX8_passOn, Cond.selects RX8 yX8_passOn yX8_passOn, Cond.code yX8_passOn cX8_passOn 3 (some .int)]
def wsL_law_r23 : List Cond := [Cond.fieldLink RX8 124 "TokenDoorsModel" "turned" "I", Cond.constant RX8 136 (99999), Cond.fieldLink RX8 121 "TokenDoorsModel" "let" "I", Cond.methodLink RL 69 yX7_ticks, Cond.instanceMethod yX7_ticks, Cond.selects RX7 yX7_ticks yX7_ticks, Cond.code yX7_ticks cX7_ticks 2 (some .int), Cond.methodLink RX7 168 yX7_isRun, Cond.static yX7_isRun, Cond.code yX7_isRun cX7_isRun 1 (some .boolean), Cond.methodLink RX7 171 yX2_runOn, Cond.instanceMethod yX2_runOn, Cond.selects RX2 yX2_runOn yX2_runOn, Cond.code yX2_runOn cX2_runOn 4 (some .int), Cond.methodLink RX2 92 yX2_tickOn, Cond.instanceMethod yX2_tickOn, Cond.selects RX2 yX2_tickOn yX2_tickOn, Cond.code yX2_tickOn cX2_tickOn 1 (some .int), Cond.methodLink RX2 86 yX2_comers, Cond.methodLink RX2 89 yX2_tickWith, Cond.instanceMethod yX2_tickWith, Cond.selects RX2 yX2_tickWith yX2_tickWith, Cond.code yX2_tickWith cX2_tickWith 4 (some .int), Cond.methodLink RX2 81 yX2_admit]
def wsL_law_r24 : List Cond := [Cond.methodLink RX2 82 yX1_settle, Cond.instanceMethod yX1_settle, Cond.selects RX1 yX1_settle yX1_settle, Cond.code yX1_settle cX1_settle 2 none, Cond.methodLink RX1 41 Lib.Math.max.name, Cond.static Lib.Math.max.name, Cond.code Lib.Math.max.name Lib.Math.max.code 2 (some .int), Cond.methodLink RL 72 yX8_ticks, Cond.instanceMethod yX8_ticks, Cond.selects RX8 yX8_ticks yX8_ticks, Cond.code yX8_ticks cX8_ticks 3 (some .int), Cond.methodLink RX8 177 yX8_isLong, Cond.static yX8_isLong, Cond.code yX8_isLong cX8_isLong 1 (some .boolean), Cond.constantLong RX8 119 (100), Cond.methodLink RX8 180 yX8_starts, Cond.instanceMethod yX8_starts, Cond.selects RX8 yX8_starts yX8_starts, Cond.code yX8_starts cX8_starts 2 none, Cond.fieldLink RX8 127 "TokenDoorsModel" "badTicks" "I", Cond.fieldLink RX8 130 "TokenDoorsModel" "worstTick" "I", Cond.methodLink RX8 183 yX8_goesOn, Cond.instanceMethod yX8_goesOn, Cond.selects RX8 yX8_goesOn yX8_goesOn]
def wsL_law_r25 : List Cond := [Cond.code yX8_goesOn cX8_goesOn 2 (some .int), Cond.methodLink RX8 147 yX8_tickOn, Cond.instanceMethod yX8_tickOn, Cond.selects RX8 yX8_tickOn yX8_tickOn, Cond.code yX8_tickOn cX8_tickOn 6 (some .int), Cond.methodLink RX8 140 yX8_settlesOn, Cond.instanceMethod yX8_settlesOn, Cond.selects RX8 yX8_settlesOn yX8_settlesOn, Cond.code yX8_settlesOn cX8_settlesOn 7 none, Cond.methodLink RL 73 yX7_runs, Cond.instanceMethod yX7_runs, Cond.selects RX7 yX7_runs yX7_runs, Cond.code yX7_runs cX7_runs 8 (some .int), Cond.methodLink RX7 180 Lib.Math.max.name, Cond.methodLink RX7 174 yX7_startTrial, Cond.instanceMethod yX7_startTrial, Cond.selects RX7 yX7_startTrial yX7_startTrial, Cond.code yX7_startTrial cX7_startTrial 1 none, Cond.methodLink RX7 299 yX2_countAnew, Cond.instanceMethod yX2_countAnew, Cond.selects RX2 yX2_countAnew yX2_countAnew, Cond.code yX2_countAnew cX2_countAnew 2 none, Cond.methodLink RX2 58 yX1_countAnew, Cond.instanceMethod yX1_countAnew]
def wsL_law_r26 : List Cond := [Cond.selects RX1 yX1_countAnew yX1_countAnew, Cond.code yX1_countAnew cX1_countAnew 1 none, Cond.methodLink RX7 177 yX2_tickOn, Cond.methodLink RX7 186 yX2_heldByAll, Cond.instanceMethod yX2_heldByAll, Cond.selects RX2 yX2_heldByAll yX2_heldByAll, Cond.code yX2_heldByAll cX2_heldByAll 3 (some .int), Cond.fieldLink RX2 95 "TokenDoors$Door" "holds" "I", Cond.methodLink RL 76 yX8_runs, Cond.instanceMethod yX8_runs, Cond.selects RX8 yX8_runs yX8_runs, Cond.code yX8_runs cX8_runs 4 (some .int), Cond.methodLink RX8 189 yX8_ticksGo, Cond.instanceMethod yX8_ticksGo, Cond.selects RX8 yX8_ticksGo yX8_ticksGo, Cond.code yX8_ticksGo cX8_ticksGo 4 (some .int), Cond.methodLink RX8 186 yX8_copies, Cond.instanceMethod yX8_copies, Cond.selects RX8 yX8_copies yX8_copies, Cond.code yX8_copies cX8_copies 4 none, Cond.methodLink RX8 192 yX8_holdOn, Cond.instanceMethod yX8_holdOn, Cond.selects RX8 yX8_holdOn yX8_holdOn, Cond.code yX8_holdOn cX8_holdOn 4 (some .int)]
def wsL_law_r27 : List Cond := [Cond.methodLink RL 77 yX7_ahead, Cond.instanceMethod yX7_ahead, Cond.selects RX7 yX7_ahead yX7_ahead, Cond.code yX7_ahead cX7_ahead 3 (some .int), Cond.fieldLink RX7 189 "TokenDoors$Door" "holds" "I", Cond.methodLink RL 80 yX8_ahead, Cond.instanceMethod yX8_ahead, Cond.selects RX8 yX8_ahead yX8_ahead, Cond.code yX8_ahead cX8_ahead 3 (some .int), Cond.methodLink RL 81 yX7_lets, Cond.instanceMethod yX7_lets, Cond.selects RX7 yX7_lets yX7_lets, Cond.code yX7_lets cX7_lets 2 (some .int), Cond.methodLink RL 84 yX8_lets, Cond.instanceMethod yX8_lets, Cond.selects RX8 yX8_lets yX8_lets, Cond.code yX8_lets cX8_lets 2 (some .int), Cond.methodLink RL 85 yX7_turns, Cond.instanceMethod yX7_turns, Cond.selects RX7 yX7_turns yX7_turns, Cond.code yX7_turns cX7_turns 3 (some .int), Cond.fieldLink RX7 192 "TokenDoors$Door" "refused" "I", Cond.methodLink RL 88 yX8_turns, Cond.instanceMethod yX8_turns]
def wsL_law_r28 : List Cond := [Cond.selects RX8 yX8_turns yX8_turns, Cond.code yX8_turns cX8_turns 3 (some .int), Cond.methodLink RL 89 yX7_when, Cond.instanceMethod yX7_when, Cond.selects RX7 yX7_when yX7_when, Cond.code yX7_when cX7_when 2 (some .int), Cond.methodLink RL 92 yX8_when, Cond.instanceMethod yX8_when, Cond.selects RX8 yX8_when yX8_when, Cond.code yX8_when cX8_when 2 (some .int), Cond.methodLink RL 93 yX7_depth, Cond.instanceMethod yX7_depth, Cond.selects RX7 yX7_depth yX7_depth, Cond.code yX7_depth cX7_depth 3 (some .int), Cond.methodLink RX7 195 yX7_leastUnrefusing, Cond.instanceMethod yX7_leastUnrefusing, Cond.selects RX7 yX7_leastUnrefusing yX7_leastUnrefusing, Cond.code yX7_leastUnrefusing cX7_leastUnrefusing 5 (some .int), Cond.methodLink RL 96 yX8_depth, Cond.instanceMethod yX8_depth, Cond.selects RX8 yX8_depth yX8_depth, Cond.code yX8_depth cX8_depth 4 (some .int), Cond.methodLink RL 97 yX7_rate, Cond.instanceMethod yX7_rate]
def wsL_law_r29 : List Cond := [Cond.selects RX7 yX7_rate yX7_rate, Cond.code yX7_rate cX7_rate 3 (some .int), Cond.methodLink RL 100 yX8_rate, Cond.instanceMethod yX8_rate, Cond.selects RX8 yX8_rate yX8_rate, Cond.code yX8_rate cX8_rate 4 (some .int), Cond.methodLink RL 101 yX7_swap, Cond.instanceMethod yX7_swap, Cond.selects RX7 yX7_swap yX7_swap, Cond.code yX7_swap cX7_swap 8 (some .int), Cond.methodLink RX7 199 yX7_isChoice, Cond.static yX7_isChoice, Cond.code yX7_isChoice cX7_isChoice 1 (some .boolean), Cond.methodLink RX7 202 yX7_letAsItIs, Cond.instanceMethod yX7_letAsItIs, Cond.selects RX7 yX7_letAsItIs yX7_letAsItIs, Cond.code yX7_letAsItIs cX7_letAsItIs 2 (some .int), Cond.methodLink RX7 205 yX2_exchange, Cond.instanceMethod yX2_exchange, Cond.selects RX2 yX2_exchange yX2_exchange, Cond.code yX2_exchange cX2_exchange 4 none, Cond.methodLink RL 104 yX8_swap, Cond.instanceMethod yX8_swap, Cond.selects RX8 yX8_swap yX8_swap]
def wsL_law_r30 : List Cond := [Cond.code yX8_swap cX8_swap 8 (some .int), Cond.methodLink RL 105 yX7_open, Cond.instanceMethod yX7_open, Cond.selects RX7 yX7_open yX7_open, Cond.code yX7_open cX7_open 7 (some .int), Cond.fieldLink RX7 208 "TokenDoors$Door" "standsOpen" "Z", Cond.methodLink RL 108 yX8_open, Cond.instanceMethod yX8_open, Cond.selects RX8 yX8_open yX8_open, Cond.code yX8_open cX8_open 7 (some .int), Cond.methodLink RL 109 yX7_kind, Cond.instanceMethod yX7_kind, Cond.selects RX7 yX7_kind yX7_kind, Cond.code yX7_kind cX7_kind 4 (some .int), Cond.methodLink RX7 212 yX7_bestChange, Cond.instanceMethod yX7_bestChange, Cond.selects RX7 yX7_bestChange yX7_bestChange, Cond.code yX7_bestChange cX7_bestChange 10 (some .int), Cond.methodLink RL 112 yX8_kind, Cond.instanceMethod yX8_kind, Cond.selects RX8 yX8_kind yX8_kind, Cond.code yX8_kind cX8_kind 4 (some .int), Cond.methodLink RX8 195 yX8_mostAt, Cond.instanceMethod yX8_mostAt]
def wsL_law_r31 : List Cond := [Cond.selects RX8 yX8_mostAt yX8_mostAt, Cond.code yX8_mostAt cX8_mostAt 9 (some .int), Cond.methodLink RL 113 yX7_fill, Cond.instanceMethod yX7_fill, Cond.selects RX7 yX7_fill yX7_fill, Cond.code yX7_fill cX7_fill 4 (some .int), Cond.methodLink RL 116 yX8_fill, Cond.instanceMethod yX8_fill, Cond.selects RX8 yX8_fill yX8_fill, Cond.code yX8_fill cX8_fill 4 (some .int), Cond.methodLink RL 117 yX7_luck, Cond.instanceMethod yX7_luck, Cond.selects RX7 yX7_luck yX7_luck, Cond.code yX7_luck cX7_luck 4 (some .long), Cond.constantLong RX7 219 (-1), Cond.methodLink RX7 216 yX7_isOdds, Cond.static yX7_isOdds, Cond.code yX7_isOdds cX7_isOdds 2 (some .boolean), Cond.methodLink RX7 221 yX7_weighAll, Cond.instanceMethod yX7_weighAll, Cond.selects RX7 yX7_weighAll yX7_weighAll, Cond.code yX7_weighAll cX7_weighAll 11 (some .long), Cond.methodLink RX7 243 yJ6_bitCount_0f7a4, Cond.static yJ6_bitCount_0f7a4]
def wsL_law_r32 : List Cond := [Cond.initialized RJ6, Cond.code yJ6_bitCount_0f7a4 cJ6_bitCount_0f7a4 1 (some .int), Cond.constant RJ6 265 (1431655765), Cond.constant RJ6 266 (858993459), Cond.constant RJ6 267 (252645135), Cond.methodLink RX7 225 yX7_power, Cond.static yX7_power, Cond.code yX7_power cX7_power 5 (some .long), Cond.methodLink RX7 312 yX7_runQuiet, Cond.instanceMethod yX7_runQuiet, Cond.selects RX7 yX7_runQuiet yX7_runQuiet, Cond.code yX7_runQuiet cX7_runQuiet 4 none, Cond.methodLink RX7 252 yX2_tickWith, Cond.methodLink RX7 229 yX7_part, Cond.static yX7_part, Cond.code yX7_part cX7_part 7 (some .long), Cond.methodLink RX7 319 Lib.MathLoose.max_long.x, Cond.static Lib.MathLoose.max_long.x, Cond.code Lib.MathLoose.max_long.x Lib.MathLoose.max_long.code 4 (some .long), Cond.methodLink RX7 315 yX7_commonDivisor, Cond.static yX7_commonDivisor, Cond.code yX7_commonDivisor cX7_commonDivisor 11 (some .long), Cond.methodLink RL 121 yX8_luck, Cond.instanceMethod yX8_luck]
def wsL_law_r33 : List Cond := [Cond.selects RX8 yX8_luck yX8_luck, Cond.code yX8_luck cX8_luck 4 (some .long), Cond.constantLong RX8 199 (10), Cond.constantLong RX8 205 (8), Cond.constantLong RX8 211 (-1), Cond.methodLink RX8 207 yX8_byNobody, Cond.instanceMethod yX8_byNobody, Cond.selects RX8 yX8_byNobody yX8_byNobody, Cond.code yX8_byNobody cX8_byNobody 14 (some .long), Cond.methodLink RX8 201 yX8_lowest, Cond.static yX8_lowest, Cond.code yX8_lowest cX8_lowest 11 (some .long), Cond.methodLink RL 122 yX7_mean, Cond.instanceMethod yX7_mean, Cond.selects RX7 yX7_mean yX7_mean, Cond.code yX7_mean cX7_mean 4 (some .long), Cond.methodLink RL 125 yX8_mean, Cond.instanceMethod yX8_mean, Cond.selects RX8 yX8_mean yX8_mean, Cond.code yX8_mean cX8_mean 4 (some .long), Cond.methodLink RL 126 yX7_see, Cond.instanceMethod yX7_see, Cond.selects RX7 yX7_see yX7_see, Cond.code yX7_see cX7_see 3 (some .int)]
def wsL_law_r34 : List Cond := [Cond.methodLink RX7 233 yX3_add, Cond.instanceMethod yX3_add, Cond.selects RX3 yX3_add yX3_add, Cond.code yX3_add cX3_add 3 (some .boolean), Cond.fieldLink RX3 18 "TokenDoors$Seen" "size" "I", Cond.methodLink RL 129 yX8_see, Cond.instanceMethod yX8_see, Cond.selects RX8 yX8_see yX8_see, Cond.code yX8_see cX8_see 3 (some .int), Cond.constantLong RX8 213 (40), Cond.constantLong RX8 215 (72), Cond.methodLink RL 130 yX7_forget, Cond.instanceMethod yX7_forget, Cond.selects RX7 yX7_forget yX7_forget, Cond.code yX7_forget cX7_forget 3 (some .int), Cond.methodLink RL 133 yX8_forget, Cond.instanceMethod yX8_forget, Cond.selects RX8 yX8_forget yX8_forget, Cond.code yX8_forget cX8_forget 3 (some .int), Cond.methodLink RL 134 yX7_kinds, Cond.instanceMethod yX7_kinds, Cond.selects RX7 yX7_kinds yX7_kinds, Cond.code yX7_kinds cX7_kinds 2 (some .int), Cond.methodLink RX7 236 yX7_fitting]
def wsL_law_r35 : List Cond := [Cond.instanceMethod yX7_fitting, Cond.selects RX7 yX7_fitting yX7_fitting, Cond.code yX7_fitting cX7_fitting 5 (some .int), Cond.methodLink RX7 239 yX7_countLetByTick, Cond.instanceMethod yX7_countLetByTick, Cond.selects RX7 yX7_countLetByTick yX7_countLetByTick, Cond.code yX7_countLetByTick cX7_countLetByTick 3 none, Cond.methodLink RX7 302 yX3_agreesWith, Cond.instanceMethod yX3_agreesWith, Cond.selects RX3 yX3_agreesWith yX3_agreesWith, Cond.code yX3_agreesWith cX3_agreesWith 3 (some .boolean), Cond.methodLink RL 137 yX8_kinds, Cond.instanceMethod yX8_kinds, Cond.selects RX8 yX8_kinds yX8_kinds, Cond.code yX8_kinds cX8_kinds 4 (some .int), Cond.methodLink RX8 217 yX8_isAsSeen, Cond.instanceMethod yX8_isAsSeen, Cond.selects RX8 yX8_isAsSeen yX8_isAsSeen, Cond.code yX8_isAsSeen cX8_isAsSeen 7 (some .boolean), Cond.methodLink RL 138 yX7_depths, Cond.instanceMethod yX7_depths, Cond.selects RX7 yX7_depths yX7_depths, Cond.code yX7_depths cX7_depths 2 (some .int), Cond.methodLink RL 141 yX8_depths]
def wsL_law_r36 : List Cond := [Cond.instanceMethod yX8_depths, Cond.selects RX8 yX8_depths yX8_depths, Cond.code yX8_depths cX8_depths 4 (some .int), Cond.methodLink RL 142 yX7_rates, Cond.instanceMethod yX7_rates, Cond.selects RX7 yX7_rates yX7_rates, Cond.code yX7_rates cX7_rates 2 (some .int), Cond.methodLink RL 145 yX8_rates, Cond.instanceMethod yX8_rates, Cond.selects RX8 yX8_rates yX8_rates, Cond.code yX8_rates cX8_rates 2 (some .int), Cond.methodLink RX8 221 yX8_ratesOf, Cond.instanceMethod yX8_ratesOf, Cond.selects RX8 yX8_ratesOf yX8_ratesOf, Cond.code yX8_ratesOf cX8_ratesOf 4 (some .int), Cond.methodLink RL 146 yX7_ask, Cond.instanceMethod yX7_ask, Cond.selects RX7 yX7_ask yX7_ask, Cond.code yX7_ask cX7_ask 8 (some .int), Cond.methodLink RX7 248 yX7_leftAtWorst, Cond.instanceMethod yX7_leftAtWorst, Cond.selects RX7 yX7_leftAtWorst yX7_leftAtWorst, Cond.code yX7_leftAtWorst cX7_leftAtWorst 5 (some .int), Cond.methodLink RX7 306 yX7_sharing]
def wsL_law_r37 : List Cond := [Cond.instanceMethod yX7_sharing, Cond.selects RX7 yX7_sharing yX7_sharing, Cond.code yX7_sharing cX7_sharing 6 (some .int), Cond.methodLink RL 149 yX8_ask, Cond.instanceMethod yX8_ask, Cond.selects RX8 yX8_ask yX8_ask, Cond.code yX8_ask cX8_ask 8 (some .int), Cond.methodLink RX8 224 yX8_worstAt, Cond.instanceMethod yX8_worstAt, Cond.selects RX8 yX8_worstAt yX8_worstAt, Cond.code yX8_worstAt cX8_worstAt 7 (some .int), Cond.methodLink RL 150 yX7_drift, Cond.instanceMethod yX7_drift, Cond.selects RX7 yX7_drift yX7_drift, Cond.code yX7_drift cX7_drift 7 (some .int), Cond.constant RX7 251 (1103515245), Cond.methodLink RL 153 yX8_drift, Cond.instanceMethod yX8_drift, Cond.selects RX8 yX8_drift yX8_drift, Cond.code yX8_drift cX8_drift 6 (some .int), Cond.constant RX8 227 (1103515245), Cond.methodLink RL 154 yX7_keep, Cond.instanceMethod yX7_keep, Cond.selects RX7 yX7_keep yX7_keep]
def wsL_law_r38 : List Cond := [Cond.code yX7_keep cX7_keep 3 (some .int), Cond.methodLink RL 157 yX8_keep, Cond.instanceMethod yX8_keep, Cond.selects RX8 yX8_keep yX8_keep, Cond.code yX8_keep cX8_keep 3 (some .int), Cond.methodLink RL 158 yX7_back, Cond.instanceMethod yX7_back, Cond.selects RX7 yX7_back yX7_back, Cond.code yX7_back cX7_back 2 (some .int), Cond.methodLink RL 161 yX8_back, Cond.instanceMethod yX8_back, Cond.selects RX8 yX8_back yX8_back, Cond.code yX8_back cX8_back 2 (some .int), Cond.methodLink RL 162 yX7_sheet, Cond.instanceMethod yX7_sheet, Cond.selects RX7 yX7_sheet yX7_sheet, Cond.code yX7_sheet cX7_sheet 4 (some .int), Cond.methodLink RX7 255 yX7_isSheet, Cond.static yX7_isSheet, Cond.code yX7_isSheet cX7_isSheet 1 (some .boolean), Cond.methodLink RX7 258 yX7_isLane, Cond.static yX7_isLane, Cond.code yX7_isLane cX7_isLane 1 (some .boolean), Cond.methodLink RX7 261 yX4_renew]
def wsL_law_r39 : List Cond := [Cond.instanceMethod yX4_renew, Cond.selects RX4 yX4_renew yX4_renew, Cond.code yX4_renew cX4_renew 3 none, Cond.fieldLink RX4 15 "TokenDoors$Sheet" "laid" "Z", Cond.fieldLink RX4 19 "TokenDoors$Sheet" "lane" "I", Cond.fieldLink RX4 23 "TokenDoors$Sheet" "size" "I", Cond.methodLink RX4 26 yJ7_fill_53178, Cond.static yJ7_fill_53178, Cond.initialized RJ7, Cond.code yJ7_fill_53178 cJ7_fill_53178 4 none, Cond.methodLink RL 165 yX8_sheet, Cond.instanceMethod yX8_sheet, Cond.selects RX8 yX8_sheet yX8_sheet, Cond.code yX8_sheet cX8_sheet 5 (some .int), Cond.methodLink RL 166 yX7_lay, Cond.instanceMethod yX7_lay, Cond.selects RX7 yX7_lay yX7_lay, Cond.code yX7_lay cX7_lay 5 (some .int), Cond.methodLink RX7 264 yX4_faultAt, Cond.instanceMethod yX4_faultAt, Cond.selects RX4 yX4_faultAt yX4_faultAt, Cond.code yX4_faultAt cX4_faultAt 2 (some .int), Cond.methodLink RX7 267 yX4_put, Cond.instanceMethod yX4_put]
def wsL_law_r40 : List Cond := [Cond.selects RX4 yX4_put yX4_put, Cond.code yX4_put cX4_put 3 none, Cond.methodLink RL 169 yX8_lay, Cond.instanceMethod yX8_lay, Cond.selects RX8 yX8_lay yX8_lay, Cond.code yX8_lay cX8_lay 4 (some .int), Cond.methodLink RL 170 yX7_read, Cond.instanceMethod yX7_read, Cond.selects RX7 yX7_read yX7_read, Cond.code yX7_read cX7_read 10 (some .int), Cond.fieldLink RX7 277 "TokenDoors" "readFault" "I", Cond.methodLink RX7 270 yX4_faultInThree, Cond.instanceMethod yX4_faultInThree, Cond.selects RX4 yX4_faultInThree yX4_faultInThree, Cond.code yX4_faultInThree cX4_faultInThree 4 (some .int), Cond.methodLink RX4 32 yX4_faultAt, Cond.methodLink RX7 273 yX7_comesFrom, Cond.instanceMethod yX7_comesFrom, Cond.selects RX7 yX7_comesFrom yX7_comesFrom, Cond.code yX7_comesFrom cX7_comesFrom 6 (some .boolean), Cond.fieldLink RX7 309 "TokenDoors$Sheet" "cells" "[I", Cond.methodLink RL 174 yX8_read, Cond.instanceMethod yX8_read, Cond.selects RX8 yX8_read yX8_read]
def wsL_law_r41 : List Cond := [Cond.code yX8_read cX8_read 9 (some .int), Cond.constantLong RX8 228 (13), Cond.fieldLink RX8 230 "TokenDoorsModel" "torn" "I", Cond.methodLink RL 175 yX7_torn, Cond.instanceMethod yX7_torn, Cond.selects RX7 yX7_torn yX7_torn, Cond.code yX7_torn cX7_torn 1 (some .int), Cond.methodLink RL 178 yX8_torn, Cond.instanceMethod yX8_torn, Cond.selects RX8 yX8_torn yX8_torn, Cond.code yX8_torn cX8_torn 1 (some .int), Cond.methodLink RL 179 yX7_count, Cond.instanceMethod yX7_count, Cond.selects RX7 yX7_count yX7_count, Cond.code yX7_count cX7_count 2 (some .int), Cond.fieldLink RX7 283 "TokenDoors$Sheet" "laid" "Z", Cond.fieldLink RX7 286 "TokenDoors$Sheet" "size" "I", Cond.methodLink RX7 280 yX7_imagesKept, Cond.instanceMethod yX7_imagesKept, Cond.selects RX7 yX7_imagesKept yX7_imagesKept, Cond.code yX7_imagesKept cX7_imagesKept 3 (some .int), Cond.methodLink RX7 287 yX2_depthOfAll, Cond.instanceMethod yX2_depthOfAll, Cond.selects RX2 yX2_depthOfAll yX2_depthOfAll]
def wsL_law_r42 : List Cond := [Cond.code yX2_depthOfAll cX2_depthOfAll 3 (some .int), Cond.fieldLink RX2 98 "TokenDoors$Door" "depth" "I", Cond.methodLink RX7 290 yX2_manyOfAll, Cond.instanceMethod yX2_manyOfAll, Cond.selects RX2 yX2_manyOfAll yX2_manyOfAll, Cond.code yX2_manyOfAll cX2_manyOfAll 3 (some .int), Cond.methodLink RL 182 yX8_count, Cond.instanceMethod yX8_count, Cond.selects RX8 yX8_count yX8_count, Cond.code yX8_count cX8_count 5 (some .int)]
def wsL_law : List Cond := (wsL_law_r1 ++ (wsL_law_r2 ++ (wsL_law_r3 ++ (wsL_law_r4 ++ (wsL_law_r5 ++ (wsL_law_r6 ++ (wsL_law_r7 ++ (wsL_law_r8 ++ (wsL_law_r9 ++ (wsL_law_r10 ++ (wsL_law_r11 ++ (wsL_law_r12 ++ (wsL_law_r13 ++ (wsL_law_r14 ++ (wsL_law_r15 ++ (wsL_law_r16 ++ (wsL_law_r17 ++ (wsL_law_r18 ++ (wsL_law_r19 ++ (wsL_law_r20 ++ (wsL_law_r21 ++ (wsL_law_r22 ++ (wsL_law_r23 ++ (wsL_law_r24 ++ (wsL_law_r25 ++ (wsL_law_r26 ++ (wsL_law_r27 ++ (wsL_law_r28 ++ (wsL_law_r29 ++ (wsL_law_r30 ++ (wsL_law_r31 ++ (wsL_law_r32 ++ (wsL_law_r33 ++ (wsL_law_r34 ++ (wsL_law_r35 ++ (wsL_law_r36 ++ (wsL_law_r37 ++ (wsL_law_r38 ++ (wsL_law_r39 ++ (wsL_law_r40 ++ (wsL_law_r41 ++ wsL_law_r42))))))))))))))))))))))))))))))))))))))))) ++ wsX70 ++ wsX80 ++ wsX20 ++ wsX50 ++ wsX60 ++ wsX30 ++ wsX40 ++ wsX10 ++ wsX00 ++ ([] : List Cond)
abbrev vwCl : List vw_C := [(RX0, TX0, 3), (RX1, TX1, 6), (RX2, TX2, 7), (RX3, TX3, 3), (RX4, TX4, 4), (RX5, TX5, 5), (RX6, TX6, 3), (RX7, TX7, 11), (RX8, TX8, 27)]
end
section
theorem dX0_init_0 : decode cX0_init 0 = .ok (.aload_n 0, 1) := by decide +kernel
theorem dX0_init_1 : decode cX0_init 1 = .ok (.invokespecial 1, 3) := by decide +kernel
theorem dX0_init_4 : decode cX0_init 4 = .ok (.return_, 1) := by decide +kernel
theorem dX0_make_0 : decode cX0_make 0 = .ok (.aload_n 0, 1) := by decide +kernel
theorem dX0_make_1 : decode cX0_make 1 = .ok (.iload_n 1, 1) := by decide +kernel
theorem dX0_make_2 : decode cX0_make 2 = .ok (.putfield 7, 3) := by decide +kernel
theorem dX0_make_5 : decode cX0_make 5 = .ok (.aload_n 0, 1) := by decide +kernel
theorem dX0_make_6 : decode cX0_make 6 = .ok (.iload_n 2, 1) := by decide +kernel
theorem dX0_make_7 : decode cX0_make 7 = .ok (.putfield 13, 3) := by decide +kernel
theorem dX0_make_10 : decode cX0_make 10 = .ok (.aload_n 0, 1) := by decide +kernel
theorem dX0_make_11 : decode cX0_make 11 = .ok (.iload_n 3, 1) := by decide +kernel
theorem dX0_make_12 : decode cX0_make 12 = .ok (.putfield 16, 3) := by decide +kernel
theorem dX0_make_15 : decode cX0_make 15 = .ok (.return_, 1) := by decide +kernel
theorem dX0_comesAt_0 : decode cX0_comesAt 0 = .ok (.iload_n 1, 1) := by decide +kernel
theorem dX0_comesAt_1 : decode cX0_comesAt 1 = .ok (.aload_n 0, 1) := by decide +kernel
theorem dX0_comesAt_2 : decode cX0_comesAt 2 = .ok (.getfield 7, 3) := by decide +kernel
theorem dX0_comesAt_5 : decode cX0_comesAt 5 = .ok (.if_icmp .ne 5, 3) := by decide +kernel
theorem dX0_comesAt_8 : decode cX0_comesAt 8 = .ok (.iconst 1, 1) := by decide +kernel
theorem dX0_comesAt_9 : decode cX0_comesAt 9 = .ok (.ireturn, 1) := by decide +kernel
theorem dX0_comesAt_10 : decode cX0_comesAt 10 = .ok (.aload_n 0, 1) := by decide +kernel
theorem dX0_comesAt_11 : decode cX0_comesAt 11 = .ok (.getfield 16, 3) := by decide +kernel
theorem dX0_comesAt_14 : decode cX0_comesAt 14 = .ok (.ifCond .le 29, 3) := by decide +kernel
theorem dX0_comesAt_17 : decode cX0_comesAt 17 = .ok (.iload_n 1, 1) := by decide +kernel
theorem dX0_comesAt_18 : decode cX0_comesAt 18 = .ok (.aload_n 0, 1) := by decide +kernel
theorem dX0_comesAt_19 : decode cX0_comesAt 19 = .ok (.getfield 7, 3) := by decide +kernel
theorem dX0_comesAt_22 : decode cX0_comesAt 22 = .ok (.if_icmp .le 21, 3) := by decide +kernel
theorem dX0_comesAt_25 : decode cX0_comesAt 25 = .ok (.iload_n 1, 1) := by decide +kernel
theorem dX0_comesAt_26 : decode cX0_comesAt 26 = .ok (.aload_n 0, 1) := by decide +kernel
theorem dX0_comesAt_27 : decode cX0_comesAt 27 = .ok (.getfield 7, 3) := by decide +kernel
theorem dX0_comesAt_30 : decode cX0_comesAt 30 = .ok (.isub, 1) := by decide +kernel
theorem dX0_comesAt_31 : decode cX0_comesAt 31 = .ok (.aload_n 0, 1) := by decide +kernel
theorem dX0_comesAt_32 : decode cX0_comesAt 32 = .ok (.getfield 16, 3) := by decide +kernel
theorem dX0_comesAt_35 : decode cX0_comesAt 35 = .ok (.irem, 1) := by decide +kernel
theorem dX0_comesAt_36 : decode cX0_comesAt 36 = .ok (.ifCond .ne 7, 3) := by decide +kernel
theorem dX0_comesAt_39 : decode cX0_comesAt 39 = .ok (.iconst 1, 1) := by decide +kernel
theorem dX0_comesAt_40 : decode cX0_comesAt 40 = .ok (.goto 4, 3) := by decide +kernel
theorem dX0_comesAt_43 : decode cX0_comesAt 43 = .ok (.iconst 0, 1) := by decide +kernel
theorem dX0_comesAt_44 : decode cX0_comesAt 44 = .ok (.ireturn, 1) := by decide +kernel
theorem dX1_init_0 : decode cX1_init 0 = .ok (.aload_n 0, 1) := by decide +kernel
theorem dX1_init_1 : decode cX1_init 1 = .ok (.invokespecial 3, 3) := by decide +kernel
theorem dX1_init_4 : decode cX1_init 4 = .ok (.return_, 1) := by decide +kernel
theorem dX1_make_0 : decode cX1_make 0 = .ok (.aload_n 0, 1) := by decide +kernel
theorem dX1_make_1 : decode cX1_make 1 = .ok (.iload_n 1, 1) := by decide +kernel
theorem dX1_make_2 : decode cX1_make 2 = .ok (.putfield 9, 3) := by decide +kernel
theorem dX1_make_5 : decode cX1_make 5 = .ok (.aload_n 0, 1) := by decide +kernel
theorem dX1_make_6 : decode cX1_make 6 = .ok (.iload_n 2, 1) := by decide +kernel
theorem dX1_make_7 : decode cX1_make 7 = .ok (.putfield 15, 3) := by decide +kernel
theorem dX1_make_10 : decode cX1_make 10 = .ok (.aload_n 0, 1) := by decide +kernel
theorem dX1_make_11 : decode cX1_make 11 = .ok (.iload_n 3, 1) := by decide +kernel
theorem dX1_make_12 : decode cX1_make 12 = .ok (.putfield 18, 3) := by decide +kernel
theorem dX1_make_15 : decode cX1_make 15 = .ok (.aload_n 0, 1) := by decide +kernel
theorem dX1_make_16 : decode cX1_make 16 = .ok (.iload_n 1, 1) := by decide +kernel
theorem dX1_make_17 : decode cX1_make 17 = .ok (.ifCond .ne 7, 3) := by decide +kernel
theorem dX1_make_20 : decode cX1_make 20 = .ok (.iload_n 2, 1) := by decide +kernel
theorem dX1_make_21 : decode cX1_make 21 = .ok (.goto 4, 3) := by decide +kernel
theorem dX1_make_24 : decode cX1_make 24 = .ok (.iconst 0, 1) := by decide +kernel
theorem dX1_make_25 : decode cX1_make 25 = .ok (.putfield 21, 3) := by decide +kernel
theorem dX1_make_28 : decode cX1_make 28 = .ok (.return_, 1) := by decide +kernel
theorem dX1_become_0 : decode cX1_become 0 = .ok (.aload_n 0, 1) := by decide +kernel
theorem dX1_become_1 : decode cX1_become 1 = .ok (.aload_n 1, 1) := by decide +kernel
theorem dX1_become_2 : decode cX1_become 2 = .ok (.getfield 9, 3) := by decide +kernel
theorem dX1_become_5 : decode cX1_become 5 = .ok (.putfield 9, 3) := by decide +kernel
theorem dX1_become_8 : decode cX1_become 8 = .ok (.aload_n 0, 1) := by decide +kernel
theorem dX1_become_9 : decode cX1_become 9 = .ok (.aload_n 1, 1) := by decide +kernel
theorem dX1_become_10 : decode cX1_become 10 = .ok (.getfield 15, 3) := by decide +kernel
theorem dX1_become_13 : decode cX1_become 13 = .ok (.putfield 15, 3) := by decide +kernel
theorem dX1_become_16 : decode cX1_become 16 = .ok (.aload_n 0, 1) := by decide +kernel
theorem dX1_become_17 : decode cX1_become 17 = .ok (.aload_n 1, 1) := by decide +kernel
theorem dX1_become_18 : decode cX1_become 18 = .ok (.getfield 18, 3) := by decide +kernel
theorem dX1_become_21 : decode cX1_become 21 = .ok (.putfield 18, 3) := by decide +kernel
theorem dX1_become_24 : decode cX1_become 24 = .ok (.aload_n 0, 1) := by decide +kernel
theorem dX1_become_25 : decode cX1_become 25 = .ok (.aload_n 1, 1) := by decide +kernel
theorem dX1_become_26 : decode cX1_become 26 = .ok (.getfield 21, 3) := by decide +kernel
theorem dX1_become_29 : decode cX1_become 29 = .ok (.putfield 21, 3) := by decide +kernel
theorem dX1_become_32 : decode cX1_become 32 = .ok (.return_, 1) := by decide +kernel
theorem dX1_countAnew_0 : decode cX1_countAnew 0 = .ok (.aload_n 0, 1) := by decide +kernel
theorem dX1_countAnew_1 : decode cX1_countAnew 1 = .ok (.iconst 0, 1) := by decide +kernel
theorem dX1_countAnew_2 : decode cX1_countAnew 2 = .ok (.putfield 24, 3) := by decide +kernel
theorem dX1_countAnew_5 : decode cX1_countAnew 5 = .ok (.aload_n 0, 1) := by decide +kernel
theorem dX1_countAnew_6 : decode cX1_countAnew 6 = .ok (.iconst 0, 1) := by decide +kernel
theorem dX1_countAnew_7 : decode cX1_countAnew 7 = .ok (.putfield 27, 3) := by decide +kernel
theorem dX1_countAnew_10 : decode cX1_countAnew 10 = .ok (.return_, 1) := by decide +kernel
theorem dX1_told_0 : decode cX1_told 0 = .ok (.iload_n 1, 1) := by decide +kernel
theorem dX1_told_1 : decode cX1_told 1 = .ok (.tableswitch 42 0 2 #[27, 32, 37], 27) := by decide +kernel
theorem dX1_told_28 : decode cX1_told 28 = .ok (.aload_n 0, 1) := by decide +kernel
theorem dX1_told_29 : decode cX1_told 29 = .ok (.getfield 9, 3) := by decide +kernel
theorem dX1_told_32 : decode cX1_told 32 = .ok (.ireturn, 1) := by decide +kernel
theorem dX1_told_33 : decode cX1_told 33 = .ok (.aload_n 0, 1) := by decide +kernel
theorem dX1_told_34 : decode cX1_told 34 = .ok (.getfield 15, 3) := by decide +kernel
theorem dX1_told_37 : decode cX1_told 37 = .ok (.ireturn, 1) := by decide +kernel
theorem dX1_told_38 : decode cX1_told 38 = .ok (.aload_n 0, 1) := by decide +kernel
theorem dX1_told_39 : decode cX1_told 39 = .ok (.getfield 18, 3) := by decide +kernel
theorem dX1_told_42 : decode cX1_told 42 = .ok (.ireturn, 1) := by decide +kernel
theorem dX1_told_43 : decode cX1_told 43 = .ok (.aload_n 0, 1) := by decide +kernel
theorem dX1_told_44 : decode cX1_told 44 = .ok (.getfield 21, 3) := by decide +kernel
theorem dX1_told_47 : decode cX1_told 47 = .ok (.ireturn, 1) := by decide +kernel
theorem dX1_change_0 : decode cX1_change 0 = .ok (.iload_n 1, 1) := by decide +kernel
theorem dX1_change_1 : decode cX1_change 1 = .ok (.tableswitch 51 0 2 #[27, 35, 43], 27) := by decide +kernel
theorem dX1_change_28 : decode cX1_change 28 = .ok (.aload_n 0, 1) := by decide +kernel
theorem dX1_change_29 : decode cX1_change 29 = .ok (.iload_n 2, 1) := by decide +kernel
theorem dX1_change_30 : decode cX1_change 30 = .ok (.putfield 9, 3) := by decide +kernel
theorem dX1_change_33 : decode cX1_change 33 = .ok (.goto 24, 3) := by decide +kernel
theorem dX1_change_36 : decode cX1_change 36 = .ok (.aload_n 0, 1) := by decide +kernel
theorem dX1_change_37 : decode cX1_change 37 = .ok (.iload_n 2, 1) := by decide +kernel
theorem dX1_change_38 : decode cX1_change 38 = .ok (.putfield 15, 3) := by decide +kernel
theorem dX1_change_41 : decode cX1_change 41 = .ok (.goto 16, 3) := by decide +kernel
theorem dX1_change_44 : decode cX1_change 44 = .ok (.aload_n 0, 1) := by decide +kernel
theorem dX1_change_45 : decode cX1_change 45 = .ok (.iload_n 2, 1) := by decide +kernel
theorem dX1_change_46 : decode cX1_change 46 = .ok (.putfield 18, 3) := by decide +kernel
theorem dX1_change_49 : decode cX1_change 49 = .ok (.goto 8, 3) := by decide +kernel
theorem dX1_change_52 : decode cX1_change 52 = .ok (.aload_n 0, 1) := by decide +kernel
theorem dX1_change_53 : decode cX1_change 53 = .ok (.iload_n 2, 1) := by decide +kernel
theorem dX1_change_54 : decode cX1_change 54 = .ok (.putfield 21, 3) := by decide +kernel
theorem dX1_change_57 : decode cX1_change 57 = .ok (.aload_n 0, 1) := by decide +kernel
theorem dX1_change_58 : decode cX1_change 58 = .ok (.aload_n 0, 1) := by decide +kernel
theorem dX1_change_59 : decode cX1_change 59 = .ok (.getfield 21, 3) := by decide +kernel
theorem dX1_change_62 : decode cX1_change 62 = .ok (.aload_n 0, 1) := by decide +kernel
theorem dX1_change_63 : decode cX1_change 63 = .ok (.getfield 15, 3) := by decide +kernel
theorem dX1_change_66 : decode cX1_change 66 = .ok (.invokestatic 31, 3) := by decide +kernel
theorem dX1_change_69 : decode cX1_change 69 = .ok (.putfield 21, 3) := by decide +kernel
theorem dX1_change_72 : decode cX1_change 72 = .ok (.return_, 1) := by decide +kernel
theorem dX1_room_0 : decode cX1_room 0 = .ok (.aload_n 0, 1) := by decide +kernel
theorem dX1_room_1 : decode cX1_room 1 = .ok (.getfield 9, 3) := by decide +kernel
theorem dX1_room_4 : decode cX1_room 4 = .ok (.ifCond .ne 10, 3) := by decide +kernel
theorem dX1_room_7 : decode cX1_room 7 = .ok (.aload_n 0, 1) := by decide +kernel
theorem dX1_room_8 : decode cX1_room 8 = .ok (.getfield 21, 3) := by decide +kernel
theorem dX1_room_11 : decode cX1_room 11 = .ok (.goto 12, 3) := by decide +kernel
theorem dX1_room_14 : decode cX1_room 14 = .ok (.aload_n 0, 1) := by decide +kernel
theorem dX1_room_15 : decode cX1_room 15 = .ok (.getfield 15, 3) := by decide +kernel
theorem dX1_room_18 : decode cX1_room 18 = .ok (.aload_n 0, 1) := by decide +kernel
theorem dX1_room_19 : decode cX1_room 19 = .ok (.getfield 21, 3) := by decide +kernel
theorem dX1_room_22 : decode cX1_room 22 = .ok (.isub, 1) := by decide +kernel
theorem dX1_room_23 : decode cX1_room 23 = .ok (.ireturn, 1) := by decide +kernel
set_option maxRecDepth 20000 in
theorem ggX1_admit_X1_room : GoodIn wsX1_admit wsX1_room := goodIn_r _ [13, 7, 6, 14, 15, 16, 17, 18, 19, 20] (by decide +kernel) (by decide +kernel)
set_option maxRecDepth 20000 in
theorem gX1_admit_X1_room : GoodIn wsX1_admit (wsV RX1 37 RX1 yX1_room wsX1_room) := goodIn_app (goodIn_of _ (by decide +kernel)) ggX1_admit_X1_room
theorem dX1_admit_0 : decode cX1_admit 0 = .ok (.aload_n 0, 1) := by decide +kernel
theorem dX1_admit_1 : decode cX1_admit 1 = .ok (.getfield 27, 3) := by decide +kernel
theorem dX1_admit_4 : decode cX1_admit 4 = .ok (.ifCond .eq 5, 3) := by decide +kernel
theorem dX1_admit_7 : decode cX1_admit 7 = .ok (.iload_n 1, 1) := by decide +kernel
theorem dX1_admit_8 : decode cX1_admit 8 = .ok (.ireturn, 1) := by decide +kernel
theorem dX1_admit_9 : decode cX1_admit 9 = .ok (.iload_n 1, 1) := by decide +kernel
theorem dX1_admit_10 : decode cX1_admit 10 = .ok (.aload_n 0, 1) := by decide +kernel
theorem dX1_admit_11 : decode cX1_admit 11 = .ok (.invokevirtual 37, 3) := by decide +kernel
theorem dX1_admit_14 : decode cX1_admit 14 = .ok (.invokestatic 31, 3) := by decide +kernel
theorem dX1_admit_17 : decode cX1_admit 17 = .ok (.istore_n 2, 1) := by decide +kernel
theorem dX1_admit_18 : decode cX1_admit 18 = .ok (.aload_n 0, 1) := by decide +kernel
theorem dX1_admit_19 : decode cX1_admit 19 = .ok (.dup, 1) := by decide +kernel
theorem dX1_admit_20 : decode cX1_admit 20 = .ok (.getfield 21, 3) := by decide +kernel
theorem dX1_admit_23 : decode cX1_admit 23 = .ok (.aload_n 0, 1) := by decide +kernel
theorem dX1_admit_24 : decode cX1_admit 24 = .ok (.getfield 9, 3) := by decide +kernel
theorem dX1_admit_27 : decode cX1_admit 27 = .ok (.ifCond .ne 8, 3) := by decide +kernel
theorem dX1_admit_30 : decode cX1_admit 30 = .ok (.iload_n 2, 1) := by decide +kernel
theorem dX1_admit_31 : decode cX1_admit 31 = .ok (.ineg, 1) := by decide +kernel
theorem dX1_admit_32 : decode cX1_admit 32 = .ok (.goto 4, 3) := by decide +kernel
theorem dX1_admit_35 : decode cX1_admit 35 = .ok (.iload_n 2, 1) := by decide +kernel
theorem dX1_admit_36 : decode cX1_admit 36 = .ok (.iadd, 1) := by decide +kernel
theorem dX1_admit_37 : decode cX1_admit 37 = .ok (.putfield 21, 3) := by decide +kernel
theorem dX1_admit_40 : decode cX1_admit 40 = .ok (.aload_n 0, 1) := by decide +kernel
theorem dX1_admit_41 : decode cX1_admit 41 = .ok (.dup, 1) := by decide +kernel
theorem dX1_admit_42 : decode cX1_admit 42 = .ok (.getfield 24, 3) := by decide +kernel
theorem dX1_admit_45 : decode cX1_admit 45 = .ok (.iload_n 1, 1) := by decide +kernel
theorem dX1_admit_46 : decode cX1_admit 46 = .ok (.iload_n 2, 1) := by decide +kernel
theorem dX1_admit_47 : decode cX1_admit 47 = .ok (.isub, 1) := by decide +kernel
theorem dX1_admit_48 : decode cX1_admit 48 = .ok (.iadd, 1) := by decide +kernel
theorem dX1_admit_49 : decode cX1_admit 49 = .ok (.putfield 24, 3) := by decide +kernel
theorem dX1_admit_52 : decode cX1_admit 52 = .ok (.iload_n 2, 1) := by decide +kernel
theorem dX1_admit_53 : decode cX1_admit 53 = .ok (.ireturn, 1) := by decide +kernel
theorem dX1_settle_0 : decode cX1_settle 0 = .ok (.aload_n 0, 1) := by decide +kernel
theorem dX1_settle_1 : decode cX1_settle 1 = .ok (.getfield 27, 3) := by decide +kernel
theorem dX1_settle_4 : decode cX1_settle 4 = .ok (.ifCond .eq 4, 3) := by decide +kernel
theorem dX1_settle_7 : decode cX1_settle 7 = .ok (.return_, 1) := by decide +kernel
theorem dX1_settle_8 : decode cX1_settle 8 = .ok (.aload_n 0, 1) := by decide +kernel
theorem dX1_settle_9 : decode cX1_settle 9 = .ok (.getfield 9, 3) := by decide +kernel
theorem dX1_settle_12 : decode cX1_settle 12 = .ok (.ifCond .ne 26, 3) := by decide +kernel
theorem dX1_settle_15 : decode cX1_settle 15 = .ok (.aload_n 0, 1) := by decide +kernel
theorem dX1_settle_16 : decode cX1_settle 16 = .ok (.aload_n 0, 1) := by decide +kernel
theorem dX1_settle_17 : decode cX1_settle 17 = .ok (.getfield 15, 3) := by decide +kernel
theorem dX1_settle_20 : decode cX1_settle 20 = .ok (.aload_n 0, 1) := by decide +kernel
theorem dX1_settle_21 : decode cX1_settle 21 = .ok (.getfield 21, 3) := by decide +kernel
theorem dX1_settle_24 : decode cX1_settle 24 = .ok (.aload_n 0, 1) := by decide +kernel
theorem dX1_settle_25 : decode cX1_settle 25 = .ok (.getfield 18, 3) := by decide +kernel
theorem dX1_settle_28 : decode cX1_settle 28 = .ok (.iadd, 1) := by decide +kernel
theorem dX1_settle_29 : decode cX1_settle 29 = .ok (.invokestatic 31, 3) := by decide +kernel
theorem dX1_settle_32 : decode cX1_settle 32 = .ok (.putfield 21, 3) := by decide +kernel
theorem dX1_settle_35 : decode cX1_settle 35 = .ok (.goto 71, 3) := by decide +kernel
theorem dX1_settle_38 : decode cX1_settle 38 = .ok (.aload_n 0, 1) := by decide +kernel
theorem dX1_settle_39 : decode cX1_settle 39 = .ok (.getfield 9, 3) := by decide +kernel
theorem dX1_settle_42 : decode cX1_settle 42 = .ok (.iconst 1, 1) := by decide +kernel
theorem dX1_settle_43 : decode cX1_settle 43 = .ok (.if_icmp .ne 23, 3) := by decide +kernel
theorem dX1_settle_46 : decode cX1_settle 46 = .ok (.aload_n 0, 1) := by decide +kernel
theorem dX1_settle_47 : decode cX1_settle 47 = .ok (.iconst 0, 1) := by decide +kernel
theorem dX1_settle_48 : decode cX1_settle 48 = .ok (.aload_n 0, 1) := by decide +kernel
theorem dX1_settle_49 : decode cX1_settle 49 = .ok (.getfield 21, 3) := by decide +kernel
theorem dX1_settle_52 : decode cX1_settle 52 = .ok (.aload_n 0, 1) := by decide +kernel
theorem dX1_settle_53 : decode cX1_settle 53 = .ok (.getfield 18, 3) := by decide +kernel
theorem dX1_settle_56 : decode cX1_settle 56 = .ok (.isub, 1) := by decide +kernel
theorem dX1_settle_57 : decode cX1_settle 57 = .ok (.invokestatic 41, 3) := by decide +kernel
theorem dX1_settle_60 : decode cX1_settle 60 = .ok (.putfield 21, 3) := by decide +kernel
theorem dX1_settle_63 : decode cX1_settle 63 = .ok (.goto 43, 3) := by decide +kernel
theorem dX1_settle_66 : decode cX1_settle 66 = .ok (.aload_n 0, 1) := by decide +kernel
theorem dX1_settle_67 : decode cX1_settle 67 = .ok (.getfield 18, 3) := by decide +kernel
theorem dX1_settle_70 : decode cX1_settle 70 = .ok (.ifCond .le 36, 3) := by decide +kernel
theorem dX1_settle_73 : decode cX1_settle 73 = .ok (.iload_n 1, 1) := by decide +kernel
theorem dX1_settle_74 : decode cX1_settle 74 = .ok (.iconst 1, 1) := by decide +kernel
theorem dX1_settle_75 : decode cX1_settle 75 = .ok (.iadd, 1) := by decide +kernel
theorem dX1_settle_76 : decode cX1_settle 76 = .ok (.aload_n 0, 1) := by decide +kernel
theorem dX1_settle_77 : decode cX1_settle 77 = .ok (.getfield 18, 3) := by decide +kernel
theorem dX1_settle_80 : decode cX1_settle 80 = .ok (.irem, 1) := by decide +kernel
theorem dX1_settle_81 : decode cX1_settle 81 = .ok (.ifCond .ne 25, 3) := by decide +kernel
theorem dX1_settle_84 : decode cX1_settle 84 = .ok (.aload_n 0, 1) := by decide +kernel
theorem dX1_settle_85 : decode cX1_settle 85 = .ok (.aload_n 0, 1) := by decide +kernel
theorem dX1_settle_86 : decode cX1_settle 86 = .ok (.getfield 9, 3) := by decide +kernel
theorem dX1_settle_89 : decode cX1_settle 89 = .ok (.iconst 2, 1) := by decide +kernel
theorem dX1_settle_90 : decode cX1_settle 90 = .ok (.if_icmp .ne 7, 3) := by decide +kernel
theorem dX1_settle_93 : decode cX1_settle 93 = .ok (.iconst 0, 1) := by decide +kernel
theorem dX1_settle_94 : decode cX1_settle 94 = .ok (.goto 9, 3) := by decide +kernel
theorem dX1_settle_97 : decode cX1_settle 97 = .ok (.aload_n 0, 1) := by decide +kernel
theorem dX1_settle_98 : decode cX1_settle 98 = .ok (.getfield 21, 3) := by decide +kernel
theorem dX1_settle_101 : decode cX1_settle 101 = .ok (.iconst 2, 1) := by decide +kernel
theorem dX1_settle_102 : decode cX1_settle 102 = .ok (.idiv, 1) := by decide +kernel
theorem dX1_settle_103 : decode cX1_settle 103 = .ok (.putfield 21, 3) := by decide +kernel
theorem dX1_settle_106 : decode cX1_settle 106 = .ok (.return_, 1) := by decide +kernel
set_option maxRecDepth 20000 in
theorem ggX2_init_X1_init : GoodIn wsX2_init wsX1_init := goodIn_r _ [14, 15, 2, 3] (by decide +kernel) (by decide +kernel)
set_option maxRecDepth 20000 in
theorem gX2_init_X1_init : GoodIn wsX2_init (wsX1_init) := ggX2_init_X1_init
set_option maxRecDepth 20000 in
theorem ggX2_init_X0_init : GoodIn wsX2_init wsX0_init := goodIn_r _ [18, 19, 2, 3] (by decide +kernel) (by decide +kernel)
set_option maxRecDepth 20000 in
theorem gX2_init_X0_init : GoodIn wsX2_init (wsX0_init) := ggX2_init_X0_init
theorem dX2_init_0 : decode cX2_init 0 = .ok (.aload_n 0, 1) := by decide +kernel
theorem dX2_init_1 : decode cX2_init 1 = .ok (.invokespecial 3, 3) := by decide +kernel
theorem dX2_init_4 : decode cX2_init 4 = .ok (.aload_n 0, 1) := by decide +kernel
theorem dX2_init_5 : decode cX2_init 5 = .ok (.iconst 4, 1) := by decide +kernel
theorem dX2_init_6 : decode cX2_init 6 = .ok (.anewarray 9, 3) := by decide +kernel
theorem dX2_init_9 : decode cX2_init 9 = .ok (.putfield 11, 3) := by decide +kernel
theorem dX2_init_12 : decode cX2_init 12 = .ok (.aload_n 0, 1) := by decide +kernel
theorem dX2_init_13 : decode cX2_init 13 = .ok (.bipush 8, 2) := by decide +kernel
theorem dX2_init_15 : decode cX2_init 15 = .ok (.anewarray 17, 3) := by decide +kernel
theorem dX2_init_18 : decode cX2_init 18 = .ok (.putfield 19, 3) := by decide +kernel
theorem dX2_init_21 : decode cX2_init 21 = .ok (.iconst 0, 1) := by decide +kernel
theorem dX2_init_22 : decode cX2_init 22 = .ok (.istore_n 1, 1) := by decide +kernel
theorem dX2_init_23 : decode cX2_init 23 = .ok (.iload_n 1, 1) := by decide +kernel
theorem dX2_init_24 : decode cX2_init 24 = .ok (.iconst 4, 1) := by decide +kernel
theorem dX2_init_25 : decode cX2_init 25 = .ok (.if_icmp .ge 22, 3) := by decide +kernel
theorem dX2_init_28 : decode cX2_init 28 = .ok (.aload_n 0, 1) := by decide +kernel
theorem dX2_init_29 : decode cX2_init 29 = .ok (.getfield 11, 3) := by decide +kernel
theorem dX2_init_32 : decode cX2_init 32 = .ok (.iload_n 1, 1) := by decide +kernel
theorem dX2_init_33 : decode cX2_init 33 = .ok (.new 9, 3) := by decide +kernel
theorem dX2_init_36 : decode cX2_init 36 = .ok (.dup, 1) := by decide +kernel
theorem dX2_init_37 : decode cX2_init 37 = .ok (.invokespecial 23, 3) := by decide +kernel
theorem dX2_init_40 : decode cX2_init 40 = .ok (.aastore, 1) := by decide +kernel
theorem dX2_init_41 : decode cX2_init 41 = .ok (.iinc 1 1, 3) := by decide +kernel
theorem dX2_init_44 : decode cX2_init 44 = .ok (.goto (-21), 3) := by decide +kernel
theorem dX2_init_47 : decode cX2_init 47 = .ok (.iconst 0, 1) := by decide +kernel
theorem dX2_init_48 : decode cX2_init 48 = .ok (.istore_n 1, 1) := by decide +kernel
theorem dX2_init_49 : decode cX2_init 49 = .ok (.iload_n 1, 1) := by decide +kernel
theorem dX2_init_50 : decode cX2_init 50 = .ok (.bipush 8, 2) := by decide +kernel
theorem dX2_init_52 : decode cX2_init 52 = .ok (.if_icmp .ge 22, 3) := by decide +kernel
theorem dX2_init_55 : decode cX2_init 55 = .ok (.aload_n 0, 1) := by decide +kernel
theorem dX2_init_56 : decode cX2_init 56 = .ok (.getfield 19, 3) := by decide +kernel
theorem dX2_init_59 : decode cX2_init 59 = .ok (.iload_n 1, 1) := by decide +kernel
theorem dX2_init_60 : decode cX2_init 60 = .ok (.new 17, 3) := by decide +kernel
theorem dX2_init_63 : decode cX2_init 63 = .ok (.dup, 1) := by decide +kernel
theorem dX2_init_64 : decode cX2_init 64 = .ok (.invokespecial 24, 3) := by decide +kernel
theorem dX2_init_67 : decode cX2_init 67 = .ok (.aastore, 1) := by decide +kernel
theorem dX2_init_68 : decode cX2_init 68 = .ok (.iinc 1 1, 3) := by decide +kernel
theorem dX2_init_71 : decode cX2_init 71 = .ok (.goto (-22), 3) := by decide +kernel
theorem dX2_init_74 : decode cX2_init 74 = .ok (.return_, 1) := by decide +kernel
theorem dX2_clear_0 : decode cX2_clear 0 = .ok (.aload_n 0, 1) := by decide +kernel
theorem dX2_clear_1 : decode cX2_clear 1 = .ok (.iconst 0, 1) := by decide +kernel
theorem dX2_clear_2 : decode cX2_clear 2 = .ok (.putfield 25, 3) := by decide +kernel
theorem dX2_clear_5 : decode cX2_clear 5 = .ok (.aload_n 0, 1) := by decide +kernel
theorem dX2_clear_6 : decode cX2_clear 6 = .ok (.iconst 0, 1) := by decide +kernel
theorem dX2_clear_7 : decode cX2_clear 7 = .ok (.putfield 29, 3) := by decide +kernel
theorem dX2_clear_10 : decode cX2_clear 10 = .ok (.aload_n 0, 1) := by decide +kernel
theorem dX2_clear_11 : decode cX2_clear 11 = .ok (.iconst 0, 1) := by decide +kernel
theorem dX2_clear_12 : decode cX2_clear 12 = .ok (.putfield 32, 3) := by decide +kernel
theorem dX2_clear_15 : decode cX2_clear 15 = .ok (.aload_n 0, 1) := by decide +kernel
theorem dX2_clear_16 : decode cX2_clear 16 = .ok (.iconst 0, 1) := by decide +kernel
theorem dX2_clear_17 : decode cX2_clear 17 = .ok (.putfield 35, 3) := by decide +kernel
theorem dX2_clear_20 : decode cX2_clear 20 = .ok (.aload_n 0, 1) := by decide +kernel
theorem dX2_clear_21 : decode cX2_clear 21 = .ok (.iconst 0, 1) := by decide +kernel
theorem dX2_clear_22 : decode cX2_clear 22 = .ok (.putfield 38, 3) := by decide +kernel
theorem dX2_clear_25 : decode cX2_clear 25 = .ok (.return_, 1) := by decide +kernel
set_option maxRecDepth 20000 in
theorem ggX2_become_X1_become : GoodIn wsX2_become wsX1_become := goodIn_r _ [15, 16, 17, 18, 19, 38, 39, 40, 41, 42, 43] (by decide +kernel) (by decide +kernel)
set_option maxRecDepth 20000 in
theorem gX2_become_X1_become : GoodIn wsX2_become (wsV RX2 41 RX1 yX1_become wsX1_become) := goodIn_app (goodIn_of _ (by decide +kernel)) ggX2_become_X1_become
set_option maxRecDepth 20000 in
theorem ggX2_become_X0_make : GoodIn wsX2_become wsX0_make := goodIn_r _ [24, 25, 26, 27, 35, 36, 37] (by decide +kernel) (by decide +kernel)
set_option maxRecDepth 20000 in
theorem gX2_become_X0_make : GoodIn wsX2_become (wsV RX2 54 RX0 yX0_make wsX0_make) := goodIn_app (goodIn_of _ (by decide +kernel)) ggX2_become_X0_make
theorem dX2_become_0 : decode cX2_become 0 = .ok (.aload_n 0, 1) := by decide +kernel
theorem dX2_become_1 : decode cX2_become 1 = .ok (.aload_n 1, 1) := by decide +kernel
theorem dX2_become_2 : decode cX2_become 2 = .ok (.getfield 25, 3) := by decide +kernel
theorem dX2_become_5 : decode cX2_become 5 = .ok (.putfield 25, 3) := by decide +kernel
theorem dX2_become_8 : decode cX2_become 8 = .ok (.iconst 0, 1) := by decide +kernel
theorem dX2_become_9 : decode cX2_become 9 = .ok (.istore_n 2, 1) := by decide +kernel
theorem dX2_become_10 : decode cX2_become 10 = .ok (.iload_n 2, 1) := by decide +kernel
theorem dX2_become_11 : decode cX2_become 11 = .ok (.aload_n 0, 1) := by decide +kernel
theorem dX2_become_12 : decode cX2_become 12 = .ok (.getfield 25, 3) := by decide +kernel
theorem dX2_become_15 : decode cX2_become 15 = .ok (.if_icmp .ge 24, 3) := by decide +kernel
theorem dX2_become_18 : decode cX2_become 18 = .ok (.aload_n 0, 1) := by decide +kernel
theorem dX2_become_19 : decode cX2_become 19 = .ok (.getfield 11, 3) := by decide +kernel
theorem dX2_become_22 : decode cX2_become 22 = .ok (.iload_n 2, 1) := by decide +kernel
theorem dX2_become_23 : decode cX2_become 23 = .ok (.aaload, 1) := by decide +kernel
theorem dX2_become_24 : decode cX2_become 24 = .ok (.aload_n 1, 1) := by decide +kernel
theorem dX2_become_25 : decode cX2_become 25 = .ok (.getfield 11, 3) := by decide +kernel
theorem dX2_become_28 : decode cX2_become 28 = .ok (.iload_n 2, 1) := by decide +kernel
theorem dX2_become_29 : decode cX2_become 29 = .ok (.aaload, 1) := by decide +kernel
theorem dX2_become_30 : decode cX2_become 30 = .ok (.invokevirtual 41, 3) := by decide +kernel
theorem dX2_become_33 : decode cX2_become 33 = .ok (.iinc 2 1, 3) := by decide +kernel
theorem dX2_become_36 : decode cX2_become 36 = .ok (.goto (-26), 3) := by decide +kernel
theorem dX2_become_39 : decode cX2_become 39 = .ok (.aload_n 0, 1) := by decide +kernel
theorem dX2_become_40 : decode cX2_become 40 = .ok (.aload_n 1, 1) := by decide +kernel
theorem dX2_become_41 : decode cX2_become 41 = .ok (.getfield 29, 3) := by decide +kernel
theorem dX2_become_44 : decode cX2_become 44 = .ok (.putfield 29, 3) := by decide +kernel
theorem dX2_become_47 : decode cX2_become 47 = .ok (.iconst 0, 1) := by decide +kernel
theorem dX2_become_48 : decode cX2_become 48 = .ok (.istore_n 2, 1) := by decide +kernel
theorem dX2_become_49 : decode cX2_become 49 = .ok (.iload_n 2, 1) := by decide +kernel
theorem dX2_become_50 : decode cX2_become 50 = .ok (.aload_n 0, 1) := by decide +kernel
theorem dX2_become_51 : decode cX2_become 51 = .ok (.getfield 29, 3) := by decide +kernel
theorem dX2_become_54 : decode cX2_become 54 = .ok (.if_icmp .ge 37, 3) := by decide +kernel
theorem dX2_become_57 : decode cX2_become 57 = .ok (.aload_n 1, 1) := by decide +kernel
theorem dX2_become_58 : decode cX2_become 58 = .ok (.getfield 19, 3) := by decide +kernel
theorem dX2_become_61 : decode cX2_become 61 = .ok (.iload_n 2, 1) := by decide +kernel
theorem dX2_become_62 : decode cX2_become 62 = .ok (.aaload, 1) := by decide +kernel
theorem dX2_become_63 : decode cX2_become 63 = .ok (.astore_n 3, 1) := by decide +kernel
theorem dX2_become_64 : decode cX2_become 64 = .ok (.aload_n 0, 1) := by decide +kernel
theorem dX2_become_65 : decode cX2_become 65 = .ok (.getfield 19, 3) := by decide +kernel
theorem dX2_become_68 : decode cX2_become 68 = .ok (.iload_n 2, 1) := by decide +kernel
theorem dX2_become_69 : decode cX2_become 69 = .ok (.aaload, 1) := by decide +kernel
theorem dX2_become_70 : decode cX2_become 70 = .ok (.aload_n 3, 1) := by decide +kernel
theorem dX2_become_71 : decode cX2_become 71 = .ok (.getfield 45, 3) := by decide +kernel
theorem dX2_become_74 : decode cX2_become 74 = .ok (.aload_n 3, 1) := by decide +kernel
theorem dX2_become_75 : decode cX2_become 75 = .ok (.getfield 48, 3) := by decide +kernel
theorem dX2_become_78 : decode cX2_become 78 = .ok (.aload_n 3, 1) := by decide +kernel
theorem dX2_become_79 : decode cX2_become 79 = .ok (.getfield 51, 3) := by decide +kernel
theorem dX2_become_82 : decode cX2_become 82 = .ok (.invokevirtual 54, 3) := by decide +kernel
theorem dX2_become_85 : decode cX2_become 85 = .ok (.iinc 2 1, 3) := by decide +kernel
theorem dX2_become_88 : decode cX2_become 88 = .ok (.goto (-39), 3) := by decide +kernel
theorem dX2_become_91 : decode cX2_become 91 = .ok (.aload_n 0, 1) := by decide +kernel
theorem dX2_become_92 : decode cX2_become 92 = .ok (.aload_n 1, 1) := by decide +kernel
theorem dX2_become_93 : decode cX2_become 93 = .ok (.getfield 32, 3) := by decide +kernel
theorem dX2_become_96 : decode cX2_become 96 = .ok (.putfield 32, 3) := by decide +kernel
theorem dX2_become_99 : decode cX2_become 99 = .ok (.aload_n 0, 1) := by decide +kernel
theorem dX2_become_100 : decode cX2_become 100 = .ok (.aload_n 1, 1) := by decide +kernel
theorem dX2_become_101 : decode cX2_become 101 = .ok (.getfield 35, 3) := by decide +kernel
theorem dX2_become_104 : decode cX2_become 104 = .ok (.putfield 35, 3) := by decide +kernel
theorem dX2_become_107 : decode cX2_become 107 = .ok (.aload_n 0, 1) := by decide +kernel
theorem dX2_become_108 : decode cX2_become 108 = .ok (.aload_n 1, 1) := by decide +kernel
theorem dX2_become_109 : decode cX2_become 109 = .ok (.getfield 38, 3) := by decide +kernel
theorem dX2_become_112 : decode cX2_become 112 = .ok (.putfield 38, 3) := by decide +kernel
theorem dX2_become_115 : decode cX2_become 115 = .ok (.return_, 1) := by decide +kernel
set_option maxRecDepth 20000 in
theorem ggX2_countAnew_X1_countAnew : GoodIn wsX2_countAnew wsX1_countAnew := goodIn_r _ [9, 10, 11, 19, 20, 21, 22, 23, 24] (by decide +kernel) (by decide +kernel)
set_option maxRecDepth 20000 in
theorem gX2_countAnew_X1_countAnew : GoodIn wsX2_countAnew (wsV RX2 58 RX1 yX1_countAnew wsX1_countAnew) := goodIn_app (goodIn_of _ (by decide +kernel)) ggX2_countAnew_X1_countAnew
theorem dX2_countAnew_0 : decode cX2_countAnew 0 = .ok (.aload_n 0, 1) := by decide +kernel
theorem dX2_countAnew_1 : decode cX2_countAnew 1 = .ok (.iconst 0, 1) := by decide +kernel
theorem dX2_countAnew_2 : decode cX2_countAnew 2 = .ok (.putfield 35, 3) := by decide +kernel
theorem dX2_countAnew_5 : decode cX2_countAnew 5 = .ok (.aload_n 0, 1) := by decide +kernel
theorem dX2_countAnew_6 : decode cX2_countAnew 6 = .ok (.iconst 0, 1) := by decide +kernel
theorem dX2_countAnew_7 : decode cX2_countAnew 7 = .ok (.putfield 38, 3) := by decide +kernel
theorem dX2_countAnew_10 : decode cX2_countAnew 10 = .ok (.iconst 0, 1) := by decide +kernel
theorem dX2_countAnew_11 : decode cX2_countAnew 11 = .ok (.istore_n 1, 1) := by decide +kernel
theorem dX2_countAnew_12 : decode cX2_countAnew 12 = .ok (.iload_n 1, 1) := by decide +kernel
theorem dX2_countAnew_13 : decode cX2_countAnew 13 = .ok (.aload_n 0, 1) := by decide +kernel
theorem dX2_countAnew_14 : decode cX2_countAnew 14 = .ok (.getfield 25, 3) := by decide +kernel
theorem dX2_countAnew_17 : decode cX2_countAnew 17 = .ok (.if_icmp .ge 18, 3) := by decide +kernel
theorem dX2_countAnew_20 : decode cX2_countAnew 20 = .ok (.aload_n 0, 1) := by decide +kernel
theorem dX2_countAnew_21 : decode cX2_countAnew 21 = .ok (.getfield 11, 3) := by decide +kernel
theorem dX2_countAnew_24 : decode cX2_countAnew 24 = .ok (.iload_n 1, 1) := by decide +kernel
theorem dX2_countAnew_25 : decode cX2_countAnew 25 = .ok (.aaload, 1) := by decide +kernel
theorem dX2_countAnew_26 : decode cX2_countAnew 26 = .ok (.invokevirtual 58, 3) := by decide +kernel
theorem dX2_countAnew_29 : decode cX2_countAnew 29 = .ok (.iinc 1 1, 3) := by decide +kernel
theorem dX2_countAnew_32 : decode cX2_countAnew 32 = .ok (.goto (-20), 3) := by decide +kernel
theorem dX2_countAnew_35 : decode cX2_countAnew 35 = .ok (.return_, 1) := by decide +kernel
set_option maxRecDepth 20000 in
theorem ggX2_addDoor_X1_make : GoodIn wsX2_addDoor wsX1_make := goodIn_r _ [7, 8, 9, 10, 11, 19, 20, 21, 22, 23, 24] (by decide +kernel) (by decide +kernel)
set_option maxRecDepth 20000 in
theorem gX2_addDoor_X1_make : GoodIn wsX2_addDoor (wsV RX2 61 RX1 yX1_make wsX1_make) := goodIn_app (goodIn_of _ (by decide +kernel)) ggX2_addDoor_X1_make
theorem dX2_addDoor_0 : decode cX2_addDoor 0 = .ok (.aload_n 0, 1) := by decide +kernel
theorem dX2_addDoor_1 : decode cX2_addDoor 1 = .ok (.getfield 25, 3) := by decide +kernel
theorem dX2_addDoor_4 : decode cX2_addDoor 4 = .ok (.iconst 4, 1) := by decide +kernel
theorem dX2_addDoor_5 : decode cX2_addDoor 5 = .ok (.if_icmp .lt 5, 3) := by decide +kernel
theorem dX2_addDoor_8 : decode cX2_addDoor 8 = .ok (.iconst 0, 1) := by decide +kernel
theorem dX2_addDoor_9 : decode cX2_addDoor 9 = .ok (.ireturn, 1) := by decide +kernel
theorem dX2_addDoor_10 : decode cX2_addDoor 10 = .ok (.aload_n 0, 1) := by decide +kernel
theorem dX2_addDoor_11 : decode cX2_addDoor 11 = .ok (.getfield 11, 3) := by decide +kernel
theorem dX2_addDoor_14 : decode cX2_addDoor 14 = .ok (.aload_n 0, 1) := by decide +kernel
theorem dX2_addDoor_15 : decode cX2_addDoor 15 = .ok (.getfield 25, 3) := by decide +kernel
theorem dX2_addDoor_18 : decode cX2_addDoor 18 = .ok (.aaload, 1) := by decide +kernel
theorem dX2_addDoor_19 : decode cX2_addDoor 19 = .ok (.iload_n 1, 1) := by decide +kernel
theorem dX2_addDoor_20 : decode cX2_addDoor 20 = .ok (.iload_n 2, 1) := by decide +kernel
theorem dX2_addDoor_21 : decode cX2_addDoor 21 = .ok (.iload_n 3, 1) := by decide +kernel
theorem dX2_addDoor_22 : decode cX2_addDoor 22 = .ok (.invokevirtual 61, 3) := by decide +kernel
theorem dX2_addDoor_25 : decode cX2_addDoor 25 = .ok (.aload_n 0, 1) := by decide +kernel
theorem dX2_addDoor_26 : decode cX2_addDoor 26 = .ok (.dup, 1) := by decide +kernel
theorem dX2_addDoor_27 : decode cX2_addDoor 27 = .ok (.getfield 25, 3) := by decide +kernel
theorem dX2_addDoor_30 : decode cX2_addDoor 30 = .ok (.iconst 1, 1) := by decide +kernel
theorem dX2_addDoor_31 : decode cX2_addDoor 31 = .ok (.iadd, 1) := by decide +kernel
theorem dX2_addDoor_32 : decode cX2_addDoor 32 = .ok (.putfield 25, 3) := by decide +kernel
theorem dX2_addDoor_35 : decode cX2_addDoor 35 = .ok (.iconst 1, 1) := by decide +kernel
theorem dX2_addDoor_36 : decode cX2_addDoor 36 = .ok (.ireturn, 1) := by decide +kernel
set_option maxRecDepth 20000 in
theorem ggX2_addCrowd_X0_make : GoodIn wsX2_addCrowd wsX0_make := goodIn_r _ [7, 8, 9, 10, 18, 19, 20] (by decide +kernel) (by decide +kernel)
set_option maxRecDepth 20000 in
theorem gX2_addCrowd_X0_make : GoodIn wsX2_addCrowd (wsV RX2 54 RX0 yX0_make wsX0_make) := goodIn_app (goodIn_of _ (by decide +kernel)) ggX2_addCrowd_X0_make
theorem dX2_addCrowd_0 : decode cX2_addCrowd 0 = .ok (.aload_n 0, 1) := by decide +kernel
theorem dX2_addCrowd_1 : decode cX2_addCrowd 1 = .ok (.getfield 29, 3) := by decide +kernel
theorem dX2_addCrowd_4 : decode cX2_addCrowd 4 = .ok (.bipush 8, 2) := by decide +kernel
theorem dX2_addCrowd_6 : decode cX2_addCrowd 6 = .ok (.if_icmp .lt 5, 3) := by decide +kernel
theorem dX2_addCrowd_9 : decode cX2_addCrowd 9 = .ok (.iconst 0, 1) := by decide +kernel
theorem dX2_addCrowd_10 : decode cX2_addCrowd 10 = .ok (.ireturn, 1) := by decide +kernel
theorem dX2_addCrowd_11 : decode cX2_addCrowd 11 = .ok (.aload_n 0, 1) := by decide +kernel
theorem dX2_addCrowd_12 : decode cX2_addCrowd 12 = .ok (.getfield 19, 3) := by decide +kernel
theorem dX2_addCrowd_15 : decode cX2_addCrowd 15 = .ok (.aload_n 0, 1) := by decide +kernel
theorem dX2_addCrowd_16 : decode cX2_addCrowd 16 = .ok (.getfield 29, 3) := by decide +kernel
theorem dX2_addCrowd_19 : decode cX2_addCrowd 19 = .ok (.aaload, 1) := by decide +kernel
theorem dX2_addCrowd_20 : decode cX2_addCrowd 20 = .ok (.iload_n 1, 1) := by decide +kernel
theorem dX2_addCrowd_21 : decode cX2_addCrowd 21 = .ok (.iload_n 2, 1) := by decide +kernel
theorem dX2_addCrowd_22 : decode cX2_addCrowd 22 = .ok (.iload_n 3, 1) := by decide +kernel
theorem dX2_addCrowd_23 : decode cX2_addCrowd 23 = .ok (.invokevirtual 54, 3) := by decide +kernel
theorem dX2_addCrowd_26 : decode cX2_addCrowd 26 = .ok (.aload_n 0, 1) := by decide +kernel
theorem dX2_addCrowd_27 : decode cX2_addCrowd 27 = .ok (.dup, 1) := by decide +kernel
theorem dX2_addCrowd_28 : decode cX2_addCrowd 28 = .ok (.getfield 29, 3) := by decide +kernel
theorem dX2_addCrowd_31 : decode cX2_addCrowd 31 = .ok (.iconst 1, 1) := by decide +kernel
theorem dX2_addCrowd_32 : decode cX2_addCrowd 32 = .ok (.iadd, 1) := by decide +kernel
theorem dX2_addCrowd_33 : decode cX2_addCrowd 33 = .ok (.putfield 29, 3) := by decide +kernel
theorem dX2_addCrowd_36 : decode cX2_addCrowd 36 = .ok (.iconst 1, 1) := by decide +kernel
theorem dX2_addCrowd_37 : decode cX2_addCrowd 37 = .ok (.ireturn, 1) := by decide +kernel
theorem dX2_exchange_0 : decode cX2_exchange 0 = .ok (.aload_n 0, 1) := by decide +kernel
theorem dX2_exchange_1 : decode cX2_exchange 1 = .ok (.getfield 11, 3) := by decide +kernel
theorem dX2_exchange_4 : decode cX2_exchange 4 = .ok (.iload_n 1, 1) := by decide +kernel
theorem dX2_exchange_5 : decode cX2_exchange 5 = .ok (.aaload, 1) := by decide +kernel
theorem dX2_exchange_6 : decode cX2_exchange 6 = .ok (.astore_n 3, 1) := by decide +kernel
theorem dX2_exchange_7 : decode cX2_exchange 7 = .ok (.aload_n 0, 1) := by decide +kernel
theorem dX2_exchange_8 : decode cX2_exchange 8 = .ok (.getfield 11, 3) := by decide +kernel
theorem dX2_exchange_11 : decode cX2_exchange 11 = .ok (.iload_n 1, 1) := by decide +kernel
theorem dX2_exchange_12 : decode cX2_exchange 12 = .ok (.aload_n 0, 1) := by decide +kernel
theorem dX2_exchange_13 : decode cX2_exchange 13 = .ok (.getfield 11, 3) := by decide +kernel
theorem dX2_exchange_16 : decode cX2_exchange 16 = .ok (.iload_n 2, 1) := by decide +kernel
theorem dX2_exchange_17 : decode cX2_exchange 17 = .ok (.aaload, 1) := by decide +kernel
theorem dX2_exchange_18 : decode cX2_exchange 18 = .ok (.aastore, 1) := by decide +kernel
theorem dX2_exchange_19 : decode cX2_exchange 19 = .ok (.aload_n 0, 1) := by decide +kernel
theorem dX2_exchange_20 : decode cX2_exchange 20 = .ok (.getfield 11, 3) := by decide +kernel
theorem dX2_exchange_23 : decode cX2_exchange 23 = .ok (.iload_n 2, 1) := by decide +kernel
theorem dX2_exchange_24 : decode cX2_exchange 24 = .ok (.aload_n 3, 1) := by decide +kernel
theorem dX2_exchange_25 : decode cX2_exchange 25 = .ok (.aastore, 1) := by decide +kernel
theorem dX2_exchange_26 : decode cX2_exchange 26 = .ok (.return_, 1) := by decide +kernel
set_option maxRecDepth 20000 in
theorem ggX2_comers_X0_comesAt : GoodIn wsX2_comers wsX0_comesAt := goodIn_r _ [9, 10, 11, 19, 20, 21] (by decide +kernel) (by decide +kernel)
set_option maxRecDepth 20000 in
theorem gX2_comers_X0_comesAt : GoodIn wsX2_comers (wsV RX2 62 RX0 yX0_comesAt wsX0_comesAt) := goodIn_app (goodIn_of _ (by decide +kernel)) ggX2_comers_X0_comesAt
theorem dX2_comers_0 : decode cX2_comers 0 = .ok (.iconst 0, 1) := by decide +kernel
theorem dX2_comers_1 : decode cX2_comers 1 = .ok (.istore_n 1, 1) := by decide +kernel
theorem dX2_comers_2 : decode cX2_comers 2 = .ok (.iconst 0, 1) := by decide +kernel
theorem dX2_comers_3 : decode cX2_comers 3 = .ok (.istore_n 2, 1) := by decide +kernel
theorem dX2_comers_4 : decode cX2_comers 4 = .ok (.iload_n 2, 1) := by decide +kernel
theorem dX2_comers_5 : decode cX2_comers 5 = .ok (.aload_n 0, 1) := by decide +kernel
theorem dX2_comers_6 : decode cX2_comers 6 = .ok (.getfield 29, 3) := by decide +kernel
theorem dX2_comers_9 : decode cX2_comers 9 = .ok (.if_icmp .ge 41, 3) := by decide +kernel
theorem dX2_comers_12 : decode cX2_comers 12 = .ok (.iload_n 1, 1) := by decide +kernel
theorem dX2_comers_13 : decode cX2_comers 13 = .ok (.aload_n 0, 1) := by decide +kernel
theorem dX2_comers_14 : decode cX2_comers 14 = .ok (.getfield 19, 3) := by decide +kernel
theorem dX2_comers_17 : decode cX2_comers 17 = .ok (.iload_n 2, 1) := by decide +kernel
theorem dX2_comers_18 : decode cX2_comers 18 = .ok (.aaload, 1) := by decide +kernel
theorem dX2_comers_19 : decode cX2_comers 19 = .ok (.aload_n 0, 1) := by decide +kernel
theorem dX2_comers_20 : decode cX2_comers 20 = .ok (.getfield 32, 3) := by decide +kernel
theorem dX2_comers_23 : decode cX2_comers 23 = .ok (.invokevirtual 62, 3) := by decide +kernel
theorem dX2_comers_26 : decode cX2_comers 26 = .ok (.ifCond .eq 15, 3) := by decide +kernel
theorem dX2_comers_29 : decode cX2_comers 29 = .ok (.aload_n 0, 1) := by decide +kernel
theorem dX2_comers_30 : decode cX2_comers 30 = .ok (.getfield 19, 3) := by decide +kernel
theorem dX2_comers_33 : decode cX2_comers 33 = .ok (.iload_n 2, 1) := by decide +kernel
theorem dX2_comers_34 : decode cX2_comers 34 = .ok (.aaload, 1) := by decide +kernel
theorem dX2_comers_35 : decode cX2_comers 35 = .ok (.getfield 48, 3) := by decide +kernel
theorem dX2_comers_38 : decode cX2_comers 38 = .ok (.goto 4, 3) := by decide +kernel
theorem dX2_comers_41 : decode cX2_comers 41 = .ok (.iconst 0, 1) := by decide +kernel
theorem dX2_comers_42 : decode cX2_comers 42 = .ok (.iadd, 1) := by decide +kernel
theorem dX2_comers_43 : decode cX2_comers 43 = .ok (.istore_n 1, 1) := by decide +kernel
theorem dX2_comers_44 : decode cX2_comers 44 = .ok (.iinc 2 1, 3) := by decide +kernel
theorem dX2_comers_47 : decode cX2_comers 47 = .ok (.goto (-43), 3) := by decide +kernel
theorem dX2_comers_50 : decode cX2_comers 50 = .ok (.iload_n 1, 1) := by decide +kernel
theorem dX2_comers_51 : decode cX2_comers 51 = .ok (.ireturn, 1) := by decide +kernel
set_option maxRecDepth 20000 in
theorem ggX2_letters_X1_room : GoodIn wsX2_letters wsX1_room := goodIn_r _ [7, 8, 9, 10, 18, 19, 20, 21, 22, 23] (by decide +kernel) (by decide +kernel)
set_option maxRecDepth 20000 in
theorem gX2_letters_X1_room : GoodIn wsX2_letters (wsV RX2 66 RX1 yX1_room wsX1_room) := goodIn_app (goodIn_of _ (by decide +kernel)) ggX2_letters_X1_room
theorem dX2_letters_0 : decode cX2_letters 0 = .ok (.iconst 0, 1) := by decide +kernel
theorem dX2_letters_1 : decode cX2_letters 1 = .ok (.istore_n 1, 1) := by decide +kernel
theorem dX2_letters_2 : decode cX2_letters 2 = .ok (.iconst 0, 1) := by decide +kernel
theorem dX2_letters_3 : decode cX2_letters 3 = .ok (.istore_n 2, 1) := by decide +kernel
theorem dX2_letters_4 : decode cX2_letters 4 = .ok (.iload_n 2, 1) := by decide +kernel
theorem dX2_letters_5 : decode cX2_letters 5 = .ok (.aload_n 0, 1) := by decide +kernel
theorem dX2_letters_6 : decode cX2_letters 6 = .ok (.getfield 25, 3) := by decide +kernel
theorem dX2_letters_9 : decode cX2_letters 9 = .ok (.if_icmp .ge 31, 3) := by decide +kernel
theorem dX2_letters_12 : decode cX2_letters 12 = .ok (.iload_n 1, 1) := by decide +kernel
theorem dX2_letters_13 : decode cX2_letters 13 = .ok (.aload_n 0, 1) := by decide +kernel
theorem dX2_letters_14 : decode cX2_letters 14 = .ok (.getfield 11, 3) := by decide +kernel
theorem dX2_letters_17 : decode cX2_letters 17 = .ok (.iload_n 2, 1) := by decide +kernel
theorem dX2_letters_18 : decode cX2_letters 18 = .ok (.aaload, 1) := by decide +kernel
theorem dX2_letters_19 : decode cX2_letters 19 = .ok (.invokevirtual 66, 3) := by decide +kernel
theorem dX2_letters_22 : decode cX2_letters 22 = .ok (.ifCond .le 9, 3) := by decide +kernel
theorem dX2_letters_25 : decode cX2_letters 25 = .ok (.iconst 1, 1) := by decide +kernel
theorem dX2_letters_26 : decode cX2_letters 26 = .ok (.iload_n 2, 1) := by decide +kernel
theorem dX2_letters_27 : decode cX2_letters 27 = .ok (.ishl, 1) := by decide +kernel
theorem dX2_letters_28 : decode cX2_letters 28 = .ok (.goto 4, 3) := by decide +kernel
theorem dX2_letters_31 : decode cX2_letters 31 = .ok (.iconst 0, 1) := by decide +kernel
theorem dX2_letters_32 : decode cX2_letters 32 = .ok (.ior, 1) := by decide +kernel
theorem dX2_letters_33 : decode cX2_letters 33 = .ok (.istore_n 1, 1) := by decide +kernel
theorem dX2_letters_34 : decode cX2_letters 34 = .ok (.iinc 2 1, 3) := by decide +kernel
theorem dX2_letters_37 : decode cX2_letters 37 = .ok (.goto (-33), 3) := by decide +kernel
theorem dX2_letters_40 : decode cX2_letters 40 = .ok (.iload_n 1, 1) := by decide +kernel
theorem dX2_letters_41 : decode cX2_letters 41 = .ok (.ireturn, 1) := by decide +kernel
set_option maxRecDepth 20000 in
theorem ggX2_firstShut_X1_room : GoodIn wsX2_firstShut wsX1_room := goodIn_r _ [7, 8, 9, 10, 18, 19, 20, 21, 22, 23] (by decide +kernel) (by decide +kernel)
set_option maxRecDepth 20000 in
theorem gX2_firstShut_X1_room : GoodIn wsX2_firstShut (wsV RX2 66 RX1 yX1_room wsX1_room) := goodIn_app (goodIn_of _ (by decide +kernel)) ggX2_firstShut_X1_room
theorem dX2_firstShut_0 : decode cX2_firstShut 0 = .ok (.iconst 0, 1) := by decide +kernel
theorem dX2_firstShut_1 : decode cX2_firstShut 1 = .ok (.istore_n 1, 1) := by decide +kernel
theorem dX2_firstShut_2 : decode cX2_firstShut 2 = .ok (.iload_n 1, 1) := by decide +kernel
theorem dX2_firstShut_3 : decode cX2_firstShut 3 = .ok (.aload_n 0, 1) := by decide +kernel
theorem dX2_firstShut_4 : decode cX2_firstShut 4 = .ok (.getfield 25, 3) := by decide +kernel
theorem dX2_firstShut_7 : decode cX2_firstShut 7 = .ok (.if_icmp .ge 23, 3) := by decide +kernel
theorem dX2_firstShut_10 : decode cX2_firstShut 10 = .ok (.aload_n 0, 1) := by decide +kernel
theorem dX2_firstShut_11 : decode cX2_firstShut 11 = .ok (.getfield 11, 3) := by decide +kernel
theorem dX2_firstShut_14 : decode cX2_firstShut 14 = .ok (.iload_n 1, 1) := by decide +kernel
theorem dX2_firstShut_15 : decode cX2_firstShut 15 = .ok (.aaload, 1) := by decide +kernel
theorem dX2_firstShut_16 : decode cX2_firstShut 16 = .ok (.invokevirtual 66, 3) := by decide +kernel
theorem dX2_firstShut_19 : decode cX2_firstShut 19 = .ok (.ifCond .ne 5, 3) := by decide +kernel
theorem dX2_firstShut_22 : decode cX2_firstShut 22 = .ok (.iload_n 1, 1) := by decide +kernel
theorem dX2_firstShut_23 : decode cX2_firstShut 23 = .ok (.ireturn, 1) := by decide +kernel
theorem dX2_firstShut_24 : decode cX2_firstShut 24 = .ok (.iinc 1 1, 3) := by decide +kernel
theorem dX2_firstShut_27 : decode cX2_firstShut 27 = .ok (.goto (-25), 3) := by decide +kernel
theorem dX2_firstShut_30 : decode cX2_firstShut 30 = .ok (.bipush (-4), 2) := by decide +kernel
theorem dX2_firstShut_32 : decode cX2_firstShut 32 = .ok (.ireturn, 1) := by decide +kernel
set_option maxRecDepth 20000 in
theorem ggX2_admit_X1_admit : GoodIn wsX2_admit wsX1_admit := goodIn_r _ [14, 15, 16, 6, 7, 8, 17, 18, 19, 20, 21, 22, 13, 23, 24, 32, 33, 34, 35, 36, 37] (by decide +kernel) (by decide +kernel)
set_option maxRecDepth 20000 in
theorem gX2_admit_X1_admit : GoodIn wsX2_admit (wsV RX2 70 RX1 yX1_admit wsX1_admit) := goodIn_app (goodIn_of _ (by decide +kernel)) ggX2_admit_X1_admit
theorem dX2_admit_0 : decode cX2_admit 0 = .ok (.iload_n 1, 1) := by decide +kernel
theorem dX2_admit_1 : decode cX2_admit 1 = .ok (.istore_n 2, 1) := by decide +kernel
theorem dX2_admit_2 : decode cX2_admit 2 = .ok (.iconst 0, 1) := by decide +kernel
theorem dX2_admit_3 : decode cX2_admit 3 = .ok (.istore_n 3, 1) := by decide +kernel
theorem dX2_admit_4 : decode cX2_admit 4 = .ok (.iload_n 3, 1) := by decide +kernel
theorem dX2_admit_5 : decode cX2_admit 5 = .ok (.aload_n 0, 1) := by decide +kernel
theorem dX2_admit_6 : decode cX2_admit 6 = .ok (.getfield 25, 3) := by decide +kernel
theorem dX2_admit_9 : decode cX2_admit 9 = .ok (.if_icmp .ge 20, 3) := by decide +kernel
theorem dX2_admit_12 : decode cX2_admit 12 = .ok (.aload_n 0, 1) := by decide +kernel
theorem dX2_admit_13 : decode cX2_admit 13 = .ok (.getfield 11, 3) := by decide +kernel
theorem dX2_admit_16 : decode cX2_admit 16 = .ok (.iload_n 3, 1) := by decide +kernel
theorem dX2_admit_17 : decode cX2_admit 17 = .ok (.aaload, 1) := by decide +kernel
theorem dX2_admit_18 : decode cX2_admit 18 = .ok (.iload_n 2, 1) := by decide +kernel
theorem dX2_admit_19 : decode cX2_admit 19 = .ok (.invokevirtual 70, 3) := by decide +kernel
theorem dX2_admit_22 : decode cX2_admit 22 = .ok (.istore_n 2, 1) := by decide +kernel
theorem dX2_admit_23 : decode cX2_admit 23 = .ok (.iinc 3 1, 3) := by decide +kernel
theorem dX2_admit_26 : decode cX2_admit 26 = .ok (.goto (-22), 3) := by decide +kernel
theorem dX2_admit_29 : decode cX2_admit 29 = .ok (.aload_n 0, 1) := by decide +kernel
theorem dX2_admit_30 : decode cX2_admit 30 = .ok (.ldc 74, 2) := by decide +kernel
theorem dX2_admit_32 : decode cX2_admit 32 = .ok (.aload_n 0, 1) := by decide +kernel
theorem dX2_admit_33 : decode cX2_admit 33 = .ok (.getfield 35, 3) := by decide +kernel
theorem dX2_admit_36 : decode cX2_admit 36 = .ok (.iload_n 2, 1) := by decide +kernel
theorem dX2_admit_37 : decode cX2_admit 37 = .ok (.iadd, 1) := by decide +kernel
theorem dX2_admit_38 : decode cX2_admit 38 = .ok (.invokestatic 75, 3) := by decide +kernel
theorem dX2_admit_41 : decode cX2_admit 41 = .ok (.putfield 35, 3) := by decide +kernel
theorem dX2_admit_44 : decode cX2_admit 44 = .ok (.aload_n 0, 1) := by decide +kernel
theorem dX2_admit_45 : decode cX2_admit 45 = .ok (.ldc 74, 2) := by decide +kernel
theorem dX2_admit_47 : decode cX2_admit 47 = .ok (.aload_n 0, 1) := by decide +kernel
theorem dX2_admit_48 : decode cX2_admit 48 = .ok (.getfield 38, 3) := by decide +kernel
theorem dX2_admit_51 : decode cX2_admit 51 = .ok (.iload_n 1, 1) := by decide +kernel
theorem dX2_admit_52 : decode cX2_admit 52 = .ok (.iadd, 1) := by decide +kernel
theorem dX2_admit_53 : decode cX2_admit 53 = .ok (.iload_n 2, 1) := by decide +kernel
theorem dX2_admit_54 : decode cX2_admit 54 = .ok (.isub, 1) := by decide +kernel
theorem dX2_admit_55 : decode cX2_admit 55 = .ok (.invokestatic 75, 3) := by decide +kernel
theorem dX2_admit_58 : decode cX2_admit 58 = .ok (.putfield 38, 3) := by decide +kernel
theorem dX2_admit_61 : decode cX2_admit 61 = .ok (.iload_n 2, 1) := by decide +kernel
theorem dX2_admit_62 : decode cX2_admit 62 = .ok (.ireturn, 1) := by decide +kernel
set_option maxRecDepth 20000 in
theorem ggX2_tickWith_X2_admit : GoodIn wsX2_tickWith wsX2_admit := goodIn_r _ [8, 1, 2, 9, 10, 11, 12, 13, 14, 15, 16, 17, 18, 19, 20, 21, 22, 23, 24, 25, 26, 27, 28, 29, 30, 39, 40, 41, 42, 43, 44, 45, 46, 47, 48, 49, 50, 51] (by decide +kernel) (by decide +kernel)
set_option maxRecDepth 20000 in
theorem gX2_tickWith_X2_admit : GoodIn wsX2_tickWith (wsV RX2 81 RX2 yX2_admit wsX2_admit) := goodIn_app (goodIn_of _ (by decide +kernel)) ggX2_tickWith_X2_admit
set_option maxRecDepth 20000 in
theorem ggX2_tickWith_X1_settle : GoodIn wsX2_tickWith wsX1_settle := goodIn_r _ [34, 21, 24, 30, 23, 35, 22, 12, 13, 14, 36, 37, 38, 46, 47, 48, 49, 50, 51] (by decide +kernel) (by decide +kernel)
set_option maxRecDepth 20000 in
theorem gX2_tickWith_X1_settle : GoodIn wsX2_tickWith (wsV RX2 82 RX1 yX1_settle wsX1_settle) := goodIn_app (goodIn_of _ (by decide +kernel)) ggX2_tickWith_X1_settle
theorem dX2_tickWith_0 : decode cX2_tickWith 0 = .ok (.aload_n 0, 1) := by decide +kernel
theorem dX2_tickWith_1 : decode cX2_tickWith 1 = .ok (.iload_n 1, 1) := by decide +kernel
theorem dX2_tickWith_2 : decode cX2_tickWith 2 = .ok (.invokevirtual 81, 3) := by decide +kernel
theorem dX2_tickWith_5 : decode cX2_tickWith 5 = .ok (.istore_n 2, 1) := by decide +kernel
theorem dX2_tickWith_6 : decode cX2_tickWith 6 = .ok (.iconst 0, 1) := by decide +kernel
theorem dX2_tickWith_7 : decode cX2_tickWith 7 = .ok (.istore_n 3, 1) := by decide +kernel
theorem dX2_tickWith_8 : decode cX2_tickWith 8 = .ok (.iload_n 3, 1) := by decide +kernel
theorem dX2_tickWith_9 : decode cX2_tickWith 9 = .ok (.aload_n 0, 1) := by decide +kernel
theorem dX2_tickWith_10 : decode cX2_tickWith 10 = .ok (.getfield 25, 3) := by decide +kernel
theorem dX2_tickWith_13 : decode cX2_tickWith 13 = .ok (.if_icmp .ge 22, 3) := by decide +kernel
theorem dX2_tickWith_16 : decode cX2_tickWith 16 = .ok (.aload_n 0, 1) := by decide +kernel
theorem dX2_tickWith_17 : decode cX2_tickWith 17 = .ok (.getfield 11, 3) := by decide +kernel
theorem dX2_tickWith_20 : decode cX2_tickWith 20 = .ok (.iload_n 3, 1) := by decide +kernel
theorem dX2_tickWith_21 : decode cX2_tickWith 21 = .ok (.aaload, 1) := by decide +kernel
theorem dX2_tickWith_22 : decode cX2_tickWith 22 = .ok (.aload_n 0, 1) := by decide +kernel
theorem dX2_tickWith_23 : decode cX2_tickWith 23 = .ok (.getfield 32, 3) := by decide +kernel
theorem dX2_tickWith_26 : decode cX2_tickWith 26 = .ok (.invokevirtual 82, 3) := by decide +kernel
theorem dX2_tickWith_29 : decode cX2_tickWith 29 = .ok (.iinc 3 1, 3) := by decide +kernel
theorem dX2_tickWith_32 : decode cX2_tickWith 32 = .ok (.goto (-24), 3) := by decide +kernel
theorem dX2_tickWith_35 : decode cX2_tickWith 35 = .ok (.aload_n 0, 1) := by decide +kernel
theorem dX2_tickWith_36 : decode cX2_tickWith 36 = .ok (.dup, 1) := by decide +kernel
theorem dX2_tickWith_37 : decode cX2_tickWith 37 = .ok (.getfield 32, 3) := by decide +kernel
theorem dX2_tickWith_40 : decode cX2_tickWith 40 = .ok (.iconst 1, 1) := by decide +kernel
theorem dX2_tickWith_41 : decode cX2_tickWith 41 = .ok (.iadd, 1) := by decide +kernel
theorem dX2_tickWith_42 : decode cX2_tickWith 42 = .ok (.putfield 32, 3) := by decide +kernel
theorem dX2_tickWith_45 : decode cX2_tickWith 45 = .ok (.iload_n 2, 1) := by decide +kernel
theorem dX2_tickWith_46 : decode cX2_tickWith 46 = .ok (.ireturn, 1) := by decide +kernel
set_option maxRecDepth 20000 in
theorem ggX2_tickOn_X2_comers : GoodIn wsX2_tickOn wsX2_comers := goodIn_r _ [5, 6, 7, 8, 9, 10, 11, 12, 13, 14, 15, 16, 57, 58, 59, 60, 61, 62, 63, 64, 65, 66] (by decide +kernel) (by decide +kernel)
set_option maxRecDepth 20000 in
theorem gX2_tickOn_X2_comers : GoodIn wsX2_tickOn (wsV RX2 86 RX2 yX2_comers wsX2_comers) := goodIn_app (goodIn_of _ (by decide +kernel)) ggX2_tickOn_X2_comers
set_option maxRecDepth 20000 in
theorem ggX2_tickOn_X2_tickWith : GoodIn wsX2_tickOn wsX2_tickWith := goodIn_r _ [20, 21, 22, 8, 23, 24, 25, 4, 26, 27, 28, 29, 30, 31, 32, 33, 34, 35, 36, 37, 38, 39, 40, 41, 42, 43, 44, 45, 46, 47, 48, 49, 50, 51, 52, 53, 54, 55, 56, 57, 58, 59, 60, 61, 62, 63, 67, 68, 69, 70, 71, 72] (by decide +kernel) (by decide +kernel)
set_option maxRecDepth 20000 in
theorem gX2_tickOn_X2_tickWith : GoodIn wsX2_tickOn (wsV RX2 89 RX2 yX2_tickWith wsX2_tickWith) := goodIn_app (goodIn_of _ (by decide +kernel)) ggX2_tickOn_X2_tickWith
theorem dX2_tickOn_0 : decode cX2_tickOn 0 = .ok (.aload_n 0, 1) := by decide +kernel
theorem dX2_tickOn_1 : decode cX2_tickOn 1 = .ok (.aload_n 0, 1) := by decide +kernel
theorem dX2_tickOn_2 : decode cX2_tickOn 2 = .ok (.invokevirtual 86, 3) := by decide +kernel
theorem dX2_tickOn_5 : decode cX2_tickOn 5 = .ok (.invokevirtual 89, 3) := by decide +kernel
theorem dX2_tickOn_8 : decode cX2_tickOn 8 = .ok (.ireturn, 1) := by decide +kernel
set_option maxRecDepth 20000 in
theorem ggX2_runOn_X2_tickOn : GoodIn wsX2_runOn wsX2_tickOn := goodIn_r _ [5, 6, 7, 8, 4, 9, 10, 11, 12, 13, 14, 15, 16, 17, 18, 19, 20, 21, 22, 23, 24, 25, 26, 27, 28, 29, 30, 31, 32, 33, 34, 35, 36, 37, 38, 39, 40, 41, 42, 43, 44, 45, 46, 47, 48, 49, 50, 51, 52, 53, 54, 55, 56, 57, 58, 59, 60, 61, 62, 63, 64, 65, 66, 67, 68, 69, 70, 71, 72, 73, 74, 75, 76] (by decide +kernel) (by decide +kernel)
set_option maxRecDepth 20000 in
theorem gX2_runOn_X2_tickOn : GoodIn wsX2_runOn (wsV RX2 92 RX2 yX2_tickOn wsX2_tickOn) := goodIn_app (goodIn_of _ (by decide +kernel)) ggX2_runOn_X2_tickOn
theorem dX2_runOn_0 : decode cX2_runOn 0 = .ok (.iconst 0, 1) := by decide +kernel
theorem dX2_runOn_1 : decode cX2_runOn 1 = .ok (.istore_n 2, 1) := by decide +kernel
theorem dX2_runOn_2 : decode cX2_runOn 2 = .ok (.iconst 0, 1) := by decide +kernel
theorem dX2_runOn_3 : decode cX2_runOn 3 = .ok (.istore_n 3, 1) := by decide +kernel
theorem dX2_runOn_4 : decode cX2_runOn 4 = .ok (.iload_n 3, 1) := by decide +kernel
theorem dX2_runOn_5 : decode cX2_runOn 5 = .ok (.iload_n 1, 1) := by decide +kernel
theorem dX2_runOn_6 : decode cX2_runOn 6 = .ok (.if_icmp .ge 16, 3) := by decide +kernel
theorem dX2_runOn_9 : decode cX2_runOn 9 = .ok (.iload_n 2, 1) := by decide +kernel
theorem dX2_runOn_10 : decode cX2_runOn 10 = .ok (.aload_n 0, 1) := by decide +kernel
theorem dX2_runOn_11 : decode cX2_runOn 11 = .ok (.invokevirtual 92, 3) := by decide +kernel
theorem dX2_runOn_14 : decode cX2_runOn 14 = .ok (.iadd, 1) := by decide +kernel
theorem dX2_runOn_15 : decode cX2_runOn 15 = .ok (.istore_n 2, 1) := by decide +kernel
theorem dX2_runOn_16 : decode cX2_runOn 16 = .ok (.iinc 3 1, 3) := by decide +kernel
theorem dX2_runOn_19 : decode cX2_runOn 19 = .ok (.goto (-15), 3) := by decide +kernel
theorem dX2_runOn_22 : decode cX2_runOn 22 = .ok (.iload_n 2, 1) := by decide +kernel
theorem dX2_runOn_23 : decode cX2_runOn 23 = .ok (.ireturn, 1) := by decide +kernel
theorem dX2_heldByAll_0 : decode cX2_heldByAll 0 = .ok (.iconst 0, 1) := by decide +kernel
theorem dX2_heldByAll_1 : decode cX2_heldByAll 1 = .ok (.istore_n 1, 1) := by decide +kernel
theorem dX2_heldByAll_2 : decode cX2_heldByAll 2 = .ok (.iconst 0, 1) := by decide +kernel
theorem dX2_heldByAll_3 : decode cX2_heldByAll 3 = .ok (.istore_n 2, 1) := by decide +kernel
theorem dX2_heldByAll_4 : decode cX2_heldByAll 4 = .ok (.iload_n 2, 1) := by decide +kernel
theorem dX2_heldByAll_5 : decode cX2_heldByAll 5 = .ok (.aload_n 0, 1) := by decide +kernel
theorem dX2_heldByAll_6 : decode cX2_heldByAll 6 = .ok (.getfield 25, 3) := by decide +kernel
theorem dX2_heldByAll_9 : decode cX2_heldByAll 9 = .ok (.if_icmp .ge 21, 3) := by decide +kernel
theorem dX2_heldByAll_12 : decode cX2_heldByAll 12 = .ok (.iload_n 1, 1) := by decide +kernel
theorem dX2_heldByAll_13 : decode cX2_heldByAll 13 = .ok (.aload_n 0, 1) := by decide +kernel
theorem dX2_heldByAll_14 : decode cX2_heldByAll 14 = .ok (.getfield 11, 3) := by decide +kernel
theorem dX2_heldByAll_17 : decode cX2_heldByAll 17 = .ok (.iload_n 2, 1) := by decide +kernel
theorem dX2_heldByAll_18 : decode cX2_heldByAll 18 = .ok (.aaload, 1) := by decide +kernel
theorem dX2_heldByAll_19 : decode cX2_heldByAll 19 = .ok (.getfield 95, 3) := by decide +kernel
theorem dX2_heldByAll_22 : decode cX2_heldByAll 22 = .ok (.iadd, 1) := by decide +kernel
theorem dX2_heldByAll_23 : decode cX2_heldByAll 23 = .ok (.istore_n 1, 1) := by decide +kernel
theorem dX2_heldByAll_24 : decode cX2_heldByAll 24 = .ok (.iinc 2 1, 3) := by decide +kernel
theorem dX2_heldByAll_27 : decode cX2_heldByAll 27 = .ok (.goto (-23), 3) := by decide +kernel
theorem dX2_heldByAll_30 : decode cX2_heldByAll 30 = .ok (.iload_n 1, 1) := by decide +kernel
theorem dX2_heldByAll_31 : decode cX2_heldByAll 31 = .ok (.ireturn, 1) := by decide +kernel
theorem dX2_depthOfAll_0 : decode cX2_depthOfAll 0 = .ok (.iconst 0, 1) := by decide +kernel
theorem dX2_depthOfAll_1 : decode cX2_depthOfAll 1 = .ok (.istore_n 1, 1) := by decide +kernel
theorem dX2_depthOfAll_2 : decode cX2_depthOfAll 2 = .ok (.iconst 0, 1) := by decide +kernel
theorem dX2_depthOfAll_3 : decode cX2_depthOfAll 3 = .ok (.istore_n 2, 1) := by decide +kernel
theorem dX2_depthOfAll_4 : decode cX2_depthOfAll 4 = .ok (.iload_n 2, 1) := by decide +kernel
theorem dX2_depthOfAll_5 : decode cX2_depthOfAll 5 = .ok (.aload_n 0, 1) := by decide +kernel
theorem dX2_depthOfAll_6 : decode cX2_depthOfAll 6 = .ok (.getfield 25, 3) := by decide +kernel
theorem dX2_depthOfAll_9 : decode cX2_depthOfAll 9 = .ok (.if_icmp .ge 21, 3) := by decide +kernel
theorem dX2_depthOfAll_12 : decode cX2_depthOfAll 12 = .ok (.iload_n 1, 1) := by decide +kernel
theorem dX2_depthOfAll_13 : decode cX2_depthOfAll 13 = .ok (.aload_n 0, 1) := by decide +kernel
theorem dX2_depthOfAll_14 : decode cX2_depthOfAll 14 = .ok (.getfield 11, 3) := by decide +kernel
theorem dX2_depthOfAll_17 : decode cX2_depthOfAll 17 = .ok (.iload_n 2, 1) := by decide +kernel
theorem dX2_depthOfAll_18 : decode cX2_depthOfAll 18 = .ok (.aaload, 1) := by decide +kernel
theorem dX2_depthOfAll_19 : decode cX2_depthOfAll 19 = .ok (.getfield 98, 3) := by decide +kernel
theorem dX2_depthOfAll_22 : decode cX2_depthOfAll 22 = .ok (.iadd, 1) := by decide +kernel
theorem dX2_depthOfAll_23 : decode cX2_depthOfAll 23 = .ok (.istore_n 1, 1) := by decide +kernel
theorem dX2_depthOfAll_24 : decode cX2_depthOfAll 24 = .ok (.iinc 2 1, 3) := by decide +kernel
theorem dX2_depthOfAll_27 : decode cX2_depthOfAll 27 = .ok (.goto (-23), 3) := by decide +kernel
theorem dX2_depthOfAll_30 : decode cX2_depthOfAll 30 = .ok (.iload_n 1, 1) := by decide +kernel
theorem dX2_depthOfAll_31 : decode cX2_depthOfAll 31 = .ok (.ireturn, 1) := by decide +kernel
theorem dX2_manyOfAll_0 : decode cX2_manyOfAll 0 = .ok (.iconst 0, 1) := by decide +kernel
theorem dX2_manyOfAll_1 : decode cX2_manyOfAll 1 = .ok (.istore_n 1, 1) := by decide +kernel
theorem dX2_manyOfAll_2 : decode cX2_manyOfAll 2 = .ok (.iconst 0, 1) := by decide +kernel
theorem dX2_manyOfAll_3 : decode cX2_manyOfAll 3 = .ok (.istore_n 2, 1) := by decide +kernel
theorem dX2_manyOfAll_4 : decode cX2_manyOfAll 4 = .ok (.iload_n 2, 1) := by decide +kernel
theorem dX2_manyOfAll_5 : decode cX2_manyOfAll 5 = .ok (.aload_n 0, 1) := by decide +kernel
theorem dX2_manyOfAll_6 : decode cX2_manyOfAll 6 = .ok (.getfield 29, 3) := by decide +kernel
theorem dX2_manyOfAll_9 : decode cX2_manyOfAll 9 = .ok (.if_icmp .ge 21, 3) := by decide +kernel
theorem dX2_manyOfAll_12 : decode cX2_manyOfAll 12 = .ok (.iload_n 1, 1) := by decide +kernel
theorem dX2_manyOfAll_13 : decode cX2_manyOfAll 13 = .ok (.aload_n 0, 1) := by decide +kernel
theorem dX2_manyOfAll_14 : decode cX2_manyOfAll 14 = .ok (.getfield 19, 3) := by decide +kernel
theorem dX2_manyOfAll_17 : decode cX2_manyOfAll 17 = .ok (.iload_n 2, 1) := by decide +kernel
theorem dX2_manyOfAll_18 : decode cX2_manyOfAll 18 = .ok (.aaload, 1) := by decide +kernel
theorem dX2_manyOfAll_19 : decode cX2_manyOfAll 19 = .ok (.getfield 48, 3) := by decide +kernel
theorem dX2_manyOfAll_22 : decode cX2_manyOfAll 22 = .ok (.iadd, 1) := by decide +kernel
theorem dX2_manyOfAll_23 : decode cX2_manyOfAll 23 = .ok (.istore_n 1, 1) := by decide +kernel
theorem dX2_manyOfAll_24 : decode cX2_manyOfAll 24 = .ok (.iinc 2 1, 3) := by decide +kernel
theorem dX2_manyOfAll_27 : decode cX2_manyOfAll 27 = .ok (.goto (-23), 3) := by decide +kernel
theorem dX2_manyOfAll_30 : decode cX2_manyOfAll 30 = .ok (.iload_n 1, 1) := by decide +kernel
theorem dX2_manyOfAll_31 : decode cX2_manyOfAll 31 = .ok (.ireturn, 1) := by decide +kernel
theorem dX3_init_0 : decode cX3_init 0 = .ok (.aload_n 0, 1) := by decide +kernel
theorem dX3_init_1 : decode cX3_init 1 = .ok (.invokespecial 3, 3) := by decide +kernel
theorem dX3_init_4 : decode cX3_init 4 = .ok (.aload_n 0, 1) := by decide +kernel
theorem dX3_init_5 : decode cX3_init 5 = .ok (.bipush 6, 2) := by decide +kernel
theorem dX3_init_7 : decode cX3_init 7 = .ok (.newarray .int, 2) := by decide +kernel
theorem dX3_init_9 : decode cX3_init 9 = .ok (.putfield 9, 3) := by decide +kernel
theorem dX3_init_12 : decode cX3_init 12 = .ok (.aload_n 0, 1) := by decide +kernel
theorem dX3_init_13 : decode cX3_init 13 = .ok (.bipush 6, 2) := by decide +kernel
theorem dX3_init_15 : decode cX3_init 15 = .ok (.newarray .int, 2) := by decide +kernel
theorem dX3_init_17 : decode cX3_init 17 = .ok (.putfield 15, 3) := by decide +kernel
theorem dX3_init_20 : decode cX3_init 20 = .ok (.return_, 1) := by decide +kernel
theorem dX3_add_0 : decode cX3_add 0 = .ok (.aload_n 0, 1) := by decide +kernel
theorem dX3_add_1 : decode cX3_add 1 = .ok (.getfield 18, 3) := by decide +kernel
theorem dX3_add_4 : decode cX3_add 4 = .ok (.bipush 6, 2) := by decide +kernel
theorem dX3_add_6 : decode cX3_add 6 = .ok (.if_icmp .lt 5, 3) := by decide +kernel
theorem dX3_add_9 : decode cX3_add 9 = .ok (.iconst 0, 1) := by decide +kernel
theorem dX3_add_10 : decode cX3_add 10 = .ok (.ireturn, 1) := by decide +kernel
theorem dX3_add_11 : decode cX3_add 11 = .ok (.aload_n 0, 1) := by decide +kernel
theorem dX3_add_12 : decode cX3_add 12 = .ok (.getfield 9, 3) := by decide +kernel
theorem dX3_add_15 : decode cX3_add 15 = .ok (.aload_n 0, 1) := by decide +kernel
theorem dX3_add_16 : decode cX3_add 16 = .ok (.getfield 18, 3) := by decide +kernel
theorem dX3_add_19 : decode cX3_add 19 = .ok (.iload_n 1, 1) := by decide +kernel
theorem dX3_add_20 : decode cX3_add 20 = .ok (.iastore, 1) := by decide +kernel
theorem dX3_add_21 : decode cX3_add 21 = .ok (.aload_n 0, 1) := by decide +kernel
theorem dX3_add_22 : decode cX3_add 22 = .ok (.getfield 15, 3) := by decide +kernel
theorem dX3_add_25 : decode cX3_add 25 = .ok (.aload_n 0, 1) := by decide +kernel
theorem dX3_add_26 : decode cX3_add 26 = .ok (.getfield 18, 3) := by decide +kernel
theorem dX3_add_29 : decode cX3_add 29 = .ok (.iload_n 2, 1) := by decide +kernel
theorem dX3_add_30 : decode cX3_add 30 = .ok (.iastore, 1) := by decide +kernel
theorem dX3_add_31 : decode cX3_add 31 = .ok (.aload_n 0, 1) := by decide +kernel
theorem dX3_add_32 : decode cX3_add 32 = .ok (.dup, 1) := by decide +kernel
theorem dX3_add_33 : decode cX3_add 33 = .ok (.getfield 18, 3) := by decide +kernel
theorem dX3_add_36 : decode cX3_add 36 = .ok (.iconst 1, 1) := by decide +kernel
theorem dX3_add_37 : decode cX3_add 37 = .ok (.iadd, 1) := by decide +kernel
theorem dX3_add_38 : decode cX3_add 38 = .ok (.putfield 18, 3) := by decide +kernel
theorem dX3_add_41 : decode cX3_add 41 = .ok (.iconst 1, 1) := by decide +kernel
theorem dX3_add_42 : decode cX3_add 42 = .ok (.ireturn, 1) := by decide +kernel
theorem dX3_agreesWith_0 : decode cX3_agreesWith 0 = .ok (.iconst 0, 1) := by decide +kernel
theorem dX3_agreesWith_1 : decode cX3_agreesWith 1 = .ok (.istore_n 2, 1) := by decide +kernel
theorem dX3_agreesWith_2 : decode cX3_agreesWith 2 = .ok (.iload_n 2, 1) := by decide +kernel
theorem dX3_agreesWith_3 : decode cX3_agreesWith 3 = .ok (.aload_n 0, 1) := by decide +kernel
theorem dX3_agreesWith_4 : decode cX3_agreesWith 4 = .ok (.getfield 18, 3) := by decide +kernel
theorem dX3_agreesWith_7 : decode cX3_agreesWith 7 = .ok (.if_icmp .ge 39, 3) := by decide +kernel
theorem dX3_agreesWith_10 : decode cX3_agreesWith 10 = .ok (.aload_n 0, 1) := by decide +kernel
theorem dX3_agreesWith_11 : decode cX3_agreesWith 11 = .ok (.getfield 9, 3) := by decide +kernel
theorem dX3_agreesWith_14 : decode cX3_agreesWith 14 = .ok (.iload_n 2, 1) := by decide +kernel
theorem dX3_agreesWith_15 : decode cX3_agreesWith 15 = .ok (.iaload, 1) := by decide +kernel
theorem dX3_agreesWith_16 : decode cX3_agreesWith 16 = .ok (.aload_n 1, 1) := by decide +kernel
theorem dX3_agreesWith_17 : decode cX3_agreesWith 17 = .ok (.arraylength, 1) := by decide +kernel
theorem dX3_agreesWith_18 : decode cX3_agreesWith 18 = .ok (.if_icmp .ge 20, 3) := by decide +kernel
theorem dX3_agreesWith_21 : decode cX3_agreesWith 21 = .ok (.aload_n 1, 1) := by decide +kernel
theorem dX3_agreesWith_22 : decode cX3_agreesWith 22 = .ok (.aload_n 0, 1) := by decide +kernel
theorem dX3_agreesWith_23 : decode cX3_agreesWith 23 = .ok (.getfield 9, 3) := by decide +kernel
theorem dX3_agreesWith_26 : decode cX3_agreesWith 26 = .ok (.iload_n 2, 1) := by decide +kernel
theorem dX3_agreesWith_27 : decode cX3_agreesWith 27 = .ok (.iaload, 1) := by decide +kernel
theorem dX3_agreesWith_28 : decode cX3_agreesWith 28 = .ok (.iaload, 1) := by decide +kernel
theorem dX3_agreesWith_29 : decode cX3_agreesWith 29 = .ok (.aload_n 0, 1) := by decide +kernel
theorem dX3_agreesWith_30 : decode cX3_agreesWith 30 = .ok (.getfield 15, 3) := by decide +kernel
theorem dX3_agreesWith_33 : decode cX3_agreesWith 33 = .ok (.iload_n 2, 1) := by decide +kernel
theorem dX3_agreesWith_34 : decode cX3_agreesWith 34 = .ok (.iaload, 1) := by decide +kernel
theorem dX3_agreesWith_35 : decode cX3_agreesWith 35 = .ok (.if_icmp .eq 5, 3) := by decide +kernel
theorem dX3_agreesWith_38 : decode cX3_agreesWith 38 = .ok (.iconst 0, 1) := by decide +kernel
theorem dX3_agreesWith_39 : decode cX3_agreesWith 39 = .ok (.ireturn, 1) := by decide +kernel
theorem dX3_agreesWith_40 : decode cX3_agreesWith 40 = .ok (.iinc 2 1, 3) := by decide +kernel
theorem dX3_agreesWith_43 : decode cX3_agreesWith 43 = .ok (.goto (-41), 3) := by decide +kernel
theorem dX3_agreesWith_46 : decode cX3_agreesWith 46 = .ok (.iconst 1, 1) := by decide +kernel
theorem dX3_agreesWith_47 : decode cX3_agreesWith 47 = .ok (.ireturn, 1) := by decide +kernel
theorem dX4_init_0 : decode cX4_init 0 = .ok (.aload_n 0, 1) := by decide +kernel
theorem dX4_init_1 : decode cX4_init 1 = .ok (.invokespecial 3, 3) := by decide +kernel
theorem dX4_init_4 : decode cX4_init 4 = .ok (.aload_n 0, 1) := by decide +kernel
theorem dX4_init_5 : decode cX4_init 5 = .ok (.bipush 40, 2) := by decide +kernel
theorem dX4_init_7 : decode cX4_init 7 = .ok (.newarray .int, 2) := by decide +kernel
theorem dX4_init_9 : decode cX4_init 9 = .ok (.putfield 9, 3) := by decide +kernel
theorem dX4_init_12 : decode cX4_init 12 = .ok (.return_, 1) := by decide +kernel
set_option maxRecDepth 20000 in
theorem ggX4_renew_J7_fill_53178 : GoodIn wsX4_renew wsJ7_fill_53178 := goodIn_r _ [8] (by decide +kernel) (by decide +kernel)
set_option maxRecDepth 20000 in
theorem gX4_renew_J7_fill_53178 : GoodIn wsX4_renew (va_wsS RX4 26 yJ7_fill_53178 wsJ7_fill_53178) := goodIn_app (goodIn_of _ (by decide +kernel)) ggX4_renew_J7_fill_53178
theorem dX4_renew_0 : decode cX4_renew 0 = .ok (.aload_n 0, 1) := by decide +kernel
theorem dX4_renew_1 : decode cX4_renew 1 = .ok (.iconst 1, 1) := by decide +kernel
theorem dX4_renew_2 : decode cX4_renew 2 = .ok (.putfield 15, 3) := by decide +kernel
theorem dX4_renew_5 : decode cX4_renew 5 = .ok (.aload_n 0, 1) := by decide +kernel
theorem dX4_renew_6 : decode cX4_renew 6 = .ok (.iload_n 1, 1) := by decide +kernel
theorem dX4_renew_7 : decode cX4_renew 7 = .ok (.putfield 19, 3) := by decide +kernel
theorem dX4_renew_10 : decode cX4_renew 10 = .ok (.aload_n 0, 1) := by decide +kernel
theorem dX4_renew_11 : decode cX4_renew 11 = .ok (.iload_n 2, 1) := by decide +kernel
theorem dX4_renew_12 : decode cX4_renew 12 = .ok (.putfield 23, 3) := by decide +kernel
theorem dX4_renew_15 : decode cX4_renew 15 = .ok (.aload_n 0, 1) := by decide +kernel
theorem dX4_renew_16 : decode cX4_renew 16 = .ok (.getfield 9, 3) := by decide +kernel
theorem dX4_renew_19 : decode cX4_renew 19 = .ok (.iconst 0, 1) := by decide +kernel
theorem dX4_renew_20 : decode cX4_renew 20 = .ok (.invokestatic 26, 3) := by decide +kernel
theorem dX4_renew_23 : decode cX4_renew 23 = .ok (.return_, 1) := by decide +kernel
theorem dX4_put_0 : decode cX4_put 0 = .ok (.aload_n 0, 1) := by decide +kernel
theorem dX4_put_1 : decode cX4_put 1 = .ok (.getfield 19, 3) := by decide +kernel
theorem dX4_put_4 : decode cX4_put 4 = .ok (.ifCond .ne 14, 3) := by decide +kernel
theorem dX4_put_7 : decode cX4_put 7 = .ok (.aload_n 0, 1) := by decide +kernel
theorem dX4_put_8 : decode cX4_put 8 = .ok (.getfield 9, 3) := by decide +kernel
theorem dX4_put_11 : decode cX4_put 11 = .ok (.iload_n 1, 1) := by decide +kernel
theorem dX4_put_12 : decode cX4_put 12 = .ok (.iload_n 2, 1) := by decide +kernel
theorem dX4_put_13 : decode cX4_put 13 = .ok (.i2b, 1) := by decide +kernel
theorem dX4_put_14 : decode cX4_put 14 = .ok (.iastore, 1) := by decide +kernel
theorem dX4_put_15 : decode cX4_put 15 = .ok (.goto 29, 3) := by decide +kernel
theorem dX4_put_18 : decode cX4_put 18 = .ok (.aload_n 0, 1) := by decide +kernel
theorem dX4_put_19 : decode cX4_put 19 = .ok (.getfield 19, 3) := by decide +kernel
theorem dX4_put_22 : decode cX4_put 22 = .ok (.iconst 1, 1) := by decide +kernel
theorem dX4_put_23 : decode cX4_put 23 = .ok (.if_icmp .ne 14, 3) := by decide +kernel
theorem dX4_put_26 : decode cX4_put 26 = .ok (.aload_n 0, 1) := by decide +kernel
theorem dX4_put_27 : decode cX4_put 27 = .ok (.getfield 9, 3) := by decide +kernel
theorem dX4_put_30 : decode cX4_put 30 = .ok (.iload_n 1, 1) := by decide +kernel
theorem dX4_put_31 : decode cX4_put 31 = .ok (.iload_n 2, 1) := by decide +kernel
theorem dX4_put_32 : decode cX4_put 32 = .ok (.i2s, 1) := by decide +kernel
theorem dX4_put_33 : decode cX4_put 33 = .ok (.iastore, 1) := by decide +kernel
theorem dX4_put_34 : decode cX4_put 34 = .ok (.goto 10, 3) := by decide +kernel
theorem dX4_put_37 : decode cX4_put 37 = .ok (.aload_n 0, 1) := by decide +kernel
theorem dX4_put_38 : decode cX4_put 38 = .ok (.getfield 9, 3) := by decide +kernel
theorem dX4_put_41 : decode cX4_put 41 = .ok (.iload_n 1, 1) := by decide +kernel
theorem dX4_put_42 : decode cX4_put 42 = .ok (.iload_n 2, 1) := by decide +kernel
theorem dX4_put_43 : decode cX4_put 43 = .ok (.iastore, 1) := by decide +kernel
theorem dX4_put_44 : decode cX4_put 44 = .ok (.return_, 1) := by decide +kernel
theorem dX4_faultAt_0 : decode cX4_faultAt 0 = .ok (.aload_n 0, 1) := by decide +kernel
theorem dX4_faultAt_1 : decode cX4_faultAt 1 = .ok (.getfield 15, 3) := by decide +kernel
theorem dX4_faultAt_4 : decode cX4_faultAt 4 = .ok (.ifCond .ne 5, 3) := by decide +kernel
theorem dX4_faultAt_7 : decode cX4_faultAt 7 = .ok (.iconst 1, 1) := by decide +kernel
theorem dX4_faultAt_8 : decode cX4_faultAt 8 = .ok (.ireturn, 1) := by decide +kernel
theorem dX4_faultAt_9 : decode cX4_faultAt 9 = .ok (.iload_n 1, 1) := by decide +kernel
theorem dX4_faultAt_10 : decode cX4_faultAt 10 = .ok (.ifCond .lt 11, 3) := by decide +kernel
theorem dX4_faultAt_13 : decode cX4_faultAt 13 = .ok (.iload_n 1, 1) := by decide +kernel
theorem dX4_faultAt_14 : decode cX4_faultAt 14 = .ok (.aload_n 0, 1) := by decide +kernel
theorem dX4_faultAt_15 : decode cX4_faultAt 15 = .ok (.getfield 23, 3) := by decide +kernel
theorem dX4_faultAt_18 : decode cX4_faultAt 18 = .ok (.if_icmp .lt 7, 3) := by decide +kernel
theorem dX4_faultAt_21 : decode cX4_faultAt 21 = .ok (.iconst 2, 1) := by decide +kernel
theorem dX4_faultAt_22 : decode cX4_faultAt 22 = .ok (.goto 4, 3) := by decide +kernel
theorem dX4_faultAt_25 : decode cX4_faultAt 25 = .ok (.iconst 0, 1) := by decide +kernel
theorem dX4_faultAt_26 : decode cX4_faultAt 26 = .ok (.ireturn, 1) := by decide +kernel
set_option maxRecDepth 20000 in
theorem ggX4_faultInThree_X4_faultAt : GoodIn wsX4_faultInThree wsX4_faultAt := goodIn_r _ [7, 1, 8, 9, 10, 11, 12] (by decide +kernel) (by decide +kernel)
set_option maxRecDepth 20000 in
theorem gX4_faultInThree_X4_faultAt : GoodIn wsX4_faultInThree (wsV RX4 32 RX4 yX4_faultAt wsX4_faultAt) := goodIn_app (goodIn_of _ (by decide +kernel)) ggX4_faultInThree_X4_faultAt
theorem dX4_faultInThree_0 : decode cX4_faultInThree 0 = .ok (.aload_n 0, 1) := by decide +kernel
theorem dX4_faultInThree_1 : decode cX4_faultInThree 1 = .ok (.getfield 15, 3) := by decide +kernel
theorem dX4_faultInThree_4 : decode cX4_faultInThree 4 = .ok (.ifCond .eq 13, 3) := by decide +kernel
theorem dX4_faultInThree_7 : decode cX4_faultInThree 7 = .ok (.aload_n 0, 1) := by decide +kernel
theorem dX4_faultInThree_8 : decode cX4_faultInThree 8 = .ok (.getfield 19, 3) := by decide +kernel
theorem dX4_faultInThree_11 : decode cX4_faultInThree 11 = .ok (.iload_n 1, 1) := by decide +kernel
theorem dX4_faultInThree_12 : decode cX4_faultInThree 12 = .ok (.if_icmp .eq 5, 3) := by decide +kernel
theorem dX4_faultInThree_15 : decode cX4_faultInThree 15 = .ok (.iconst 3, 1) := by decide +kernel
theorem dX4_faultInThree_16 : decode cX4_faultInThree 16 = .ok (.ireturn, 1) := by decide +kernel
theorem dX4_faultInThree_17 : decode cX4_faultInThree 17 = .ok (.aload_n 0, 1) := by decide +kernel
theorem dX4_faultInThree_18 : decode cX4_faultInThree 18 = .ok (.iload_n 2, 1) := by decide +kernel
theorem dX4_faultInThree_19 : decode cX4_faultInThree 19 = .ok (.invokevirtual 32, 3) := by decide +kernel
theorem dX4_faultInThree_22 : decode cX4_faultInThree 22 = .ok (.istore_n 3, 1) := by decide +kernel
theorem dX4_faultInThree_23 : decode cX4_faultInThree 23 = .ok (.iload_n 3, 1) := by decide +kernel
theorem dX4_faultInThree_24 : decode cX4_faultInThree 24 = .ok (.ifCond .eq 7, 3) := by decide +kernel
theorem dX4_faultInThree_27 : decode cX4_faultInThree 27 = .ok (.iload_n 3, 1) := by decide +kernel
theorem dX4_faultInThree_28 : decode cX4_faultInThree 28 = .ok (.goto 10, 3) := by decide +kernel
theorem dX4_faultInThree_31 : decode cX4_faultInThree 31 = .ok (.aload_n 0, 1) := by decide +kernel
theorem dX4_faultInThree_32 : decode cX4_faultInThree 32 = .ok (.iload_n 2, 1) := by decide +kernel
theorem dX4_faultInThree_33 : decode cX4_faultInThree 33 = .ok (.iconst 2, 1) := by decide +kernel
theorem dX4_faultInThree_34 : decode cX4_faultInThree 34 = .ok (.iadd, 1) := by decide +kernel
theorem dX4_faultInThree_35 : decode cX4_faultInThree 35 = .ok (.invokevirtual 32, 3) := by decide +kernel
theorem dX4_faultInThree_38 : decode cX4_faultInThree 38 = .ok (.ireturn, 1) := by decide +kernel
theorem dX5_init_0 : decode cX5_init 0 = .ok (.aload_n 0, 1) := by decide +kernel
theorem dX5_init_1 : decode cX5_init 1 = .ok (.invokespecial 3, 3) := by decide +kernel
theorem dX5_init_4 : decode cX5_init 4 = .ok (.aload_n 0, 1) := by decide +kernel
theorem dX5_init_5 : decode cX5_init 5 = .ok (.sipush 160, 3) := by decide +kernel
theorem dX5_init_8 : decode cX5_init 8 = .ok (.newarray .byte, 2) := by decide +kernel
theorem dX5_init_10 : decode cX5_init 10 = .ok (.putfield 9, 3) := by decide +kernel
theorem dX5_init_13 : decode cX5_init 13 = .ok (.return_, 1) := by decide +kernel
theorem dX5_append_0 : decode cX5_append 0 = .ok (.aload_n 0, 1) := by decide +kernel
theorem dX5_append_1 : decode cX5_append 1 = .ok (.getfield 15, 3) := by decide +kernel
theorem dX5_append_4 : decode cX5_append 4 = .ok (.sipush 160, 3) := by decide +kernel
theorem dX5_append_7 : decode cX5_append 7 = .ok (.if_icmp .lt 5, 3) := by decide +kernel
theorem dX5_append_10 : decode cX5_append 10 = .ok (.iconst 0, 1) := by decide +kernel
theorem dX5_append_11 : decode cX5_append 11 = .ok (.ireturn, 1) := by decide +kernel
theorem dX5_append_12 : decode cX5_append 12 = .ok (.aload_n 0, 1) := by decide +kernel
theorem dX5_append_13 : decode cX5_append 13 = .ok (.getfield 9, 3) := by decide +kernel
theorem dX5_append_16 : decode cX5_append 16 = .ok (.aload_n 0, 1) := by decide +kernel
theorem dX5_append_17 : decode cX5_append 17 = .ok (.getfield 15, 3) := by decide +kernel
theorem dX5_append_20 : decode cX5_append 20 = .ok (.iload_n 1, 1) := by decide +kernel
theorem dX5_append_21 : decode cX5_append 21 = .ok (.i2b, 1) := by decide +kernel
theorem dX5_append_22 : decode cX5_append 22 = .ok (.bastore, 1) := by decide +kernel
theorem dX5_append_23 : decode cX5_append 23 = .ok (.aload_n 0, 1) := by decide +kernel
theorem dX5_append_24 : decode cX5_append 24 = .ok (.dup, 1) := by decide +kernel
theorem dX5_append_25 : decode cX5_append 25 = .ok (.getfield 15, 3) := by decide +kernel
theorem dX5_append_28 : decode cX5_append 28 = .ok (.iconst 1, 1) := by decide +kernel
theorem dX5_append_29 : decode cX5_append 29 = .ok (.iadd, 1) := by decide +kernel
theorem dX5_append_30 : decode cX5_append 30 = .ok (.putfield 15, 3) := by decide +kernel
theorem dX5_append_33 : decode cX5_append 33 = .ok (.iconst 1, 1) := by decide +kernel
theorem dX5_append_34 : decode cX5_append 34 = .ok (.ireturn, 1) := by decide +kernel
set_option maxRecDepth 20000 in
theorem ggX5_advance_X5_isLetter : GoodIn wsX5_advance wsX5_isLetter := goodIn_r _ [8] (by decide +kernel) (by decide +kernel)
set_option maxRecDepth 20000 in
theorem gX5_advance_X5_isLetter : GoodIn wsX5_advance (va_wsS RX5 25 yX5_isLetter wsX5_isLetter) := goodIn_app (goodIn_of _ (by decide +kernel)) ggX5_advance_X5_isLetter
set_option maxRecDepth 20000 in
theorem ggX5_advance_X5_takeName : GoodIn wsX5_advance wsX5_takeName := goodIn_r _ [12, 1, 2, 3, 5, 6, 7, 8, 21, 22, 23, 24, 25] (by decide +kernel) (by decide +kernel)
set_option maxRecDepth 20000 in
theorem gX5_advance_X5_takeName : GoodIn wsX5_advance (wsV RX5 29 RX5 yX5_takeName wsX5_takeName) := goodIn_app (goodIn_of _ (by decide +kernel)) ggX5_advance_X5_takeName
set_option maxRecDepth 20000 in
theorem ggX5_advance_X5_isFigure : GoodIn wsX5_advance wsX5_isFigure := goodIn_r _ [15] (by decide +kernel) (by decide +kernel)
set_option maxRecDepth 20000 in
theorem gX5_advance_X5_isFigure : GoodIn wsX5_advance (va_wsS RX5 33 yX5_isFigure wsX5_isFigure) := goodIn_app (goodIn_of _ (by decide +kernel)) ggX5_advance_X5_isFigure
set_option maxRecDepth 20000 in
theorem ggX5_advance_X5_takeNumber : GoodIn wsX5_advance wsX5_takeNumber := goodIn_r _ [19, 20, 1, 2, 3, 4, 13, 14, 7, 15, 21, 22, 23, 24, 25] (by decide +kernel) (by decide +kernel)
set_option maxRecDepth 20000 in
theorem gX5_advance_X5_takeNumber : GoodIn wsX5_advance (wsV RX5 36 RX5 yX5_takeNumber wsX5_takeNumber) := goodIn_app (goodIn_of _ (by decide +kernel)) ggX5_advance_X5_takeNumber
theorem dX5_advance_0 : decode cX5_advance 0 = .ok (.aload_n 0, 1) := by decide +kernel
theorem dX5_advance_1 : decode cX5_advance 1 = .ok (.getfield 19, 3) := by decide +kernel
theorem dX5_advance_4 : decode cX5_advance 4 = .ok (.aload_n 0, 1) := by decide +kernel
theorem dX5_advance_5 : decode cX5_advance 5 = .ok (.getfield 15, 3) := by decide +kernel
theorem dX5_advance_8 : decode cX5_advance 8 = .ok (.if_icmp .ge 30, 3) := by decide +kernel
theorem dX5_advance_11 : decode cX5_advance 11 = .ok (.aload_n 0, 1) := by decide +kernel
theorem dX5_advance_12 : decode cX5_advance 12 = .ok (.getfield 9, 3) := by decide +kernel
theorem dX5_advance_15 : decode cX5_advance 15 = .ok (.aload_n 0, 1) := by decide +kernel
theorem dX5_advance_16 : decode cX5_advance 16 = .ok (.getfield 19, 3) := by decide +kernel
theorem dX5_advance_19 : decode cX5_advance 19 = .ok (.baload, 1) := by decide +kernel
theorem dX5_advance_20 : decode cX5_advance 20 = .ok (.bipush 32, 2) := by decide +kernel
theorem dX5_advance_22 : decode cX5_advance 22 = .ok (.if_icmp .ne 16, 3) := by decide +kernel
theorem dX5_advance_25 : decode cX5_advance 25 = .ok (.aload_n 0, 1) := by decide +kernel
theorem dX5_advance_26 : decode cX5_advance 26 = .ok (.dup, 1) := by decide +kernel
theorem dX5_advance_27 : decode cX5_advance 27 = .ok (.getfield 19, 3) := by decide +kernel
theorem dX5_advance_30 : decode cX5_advance 30 = .ok (.iconst 1, 1) := by decide +kernel
theorem dX5_advance_31 : decode cX5_advance 31 = .ok (.iadd, 1) := by decide +kernel
theorem dX5_advance_32 : decode cX5_advance 32 = .ok (.putfield 19, 3) := by decide +kernel
theorem dX5_advance_35 : decode cX5_advance 35 = .ok (.goto (-35), 3) := by decide +kernel
theorem dX5_advance_38 : decode cX5_advance 38 = .ok (.aload_n 0, 1) := by decide +kernel
theorem dX5_advance_39 : decode cX5_advance 39 = .ok (.aload_n 0, 1) := by decide +kernel
theorem dX5_advance_40 : decode cX5_advance 40 = .ok (.getfield 19, 3) := by decide +kernel
theorem dX5_advance_43 : decode cX5_advance 43 = .ok (.putfield 22, 3) := by decide +kernel
theorem dX5_advance_46 : decode cX5_advance 46 = .ok (.aload_n 0, 1) := by decide +kernel
theorem dX5_advance_47 : decode cX5_advance 47 = .ok (.getfield 22, 3) := by decide +kernel
theorem dX5_advance_50 : decode cX5_advance 50 = .ok (.aload_n 0, 1) := by decide +kernel
theorem dX5_advance_51 : decode cX5_advance 51 = .ok (.getfield 15, 3) := by decide +kernel
theorem dX5_advance_54 : decode cX5_advance 54 = .ok (.if_icmp .lt 5, 3) := by decide +kernel
theorem dX5_advance_57 : decode cX5_advance 57 = .ok (.iconst 0, 1) := by decide +kernel
theorem dX5_advance_58 : decode cX5_advance 58 = .ok (.ireturn, 1) := by decide +kernel
theorem dX5_advance_59 : decode cX5_advance 59 = .ok (.aload_n 0, 1) := by decide +kernel
theorem dX5_advance_60 : decode cX5_advance 60 = .ok (.getfield 9, 3) := by decide +kernel
theorem dX5_advance_63 : decode cX5_advance 63 = .ok (.aload_n 0, 1) := by decide +kernel
theorem dX5_advance_64 : decode cX5_advance 64 = .ok (.getfield 22, 3) := by decide +kernel
theorem dX5_advance_67 : decode cX5_advance 67 = .ok (.baload, 1) := by decide +kernel
theorem dX5_advance_68 : decode cX5_advance 68 = .ok (.invokestatic 25, 3) := by decide +kernel
theorem dX5_advance_71 : decode cX5_advance 71 = .ok (.ifCond .eq 8, 3) := by decide +kernel
theorem dX5_advance_74 : decode cX5_advance 74 = .ok (.aload_n 0, 1) := by decide +kernel
theorem dX5_advance_75 : decode cX5_advance 75 = .ok (.invokevirtual 29, 3) := by decide +kernel
theorem dX5_advance_78 : decode cX5_advance 78 = .ok (.ireturn, 1) := by decide +kernel
theorem dX5_advance_79 : decode cX5_advance 79 = .ok (.aload_n 0, 1) := by decide +kernel
theorem dX5_advance_80 : decode cX5_advance 80 = .ok (.getfield 9, 3) := by decide +kernel
theorem dX5_advance_83 : decode cX5_advance 83 = .ok (.aload_n 0, 1) := by decide +kernel
theorem dX5_advance_84 : decode cX5_advance 84 = .ok (.getfield 22, 3) := by decide +kernel
theorem dX5_advance_87 : decode cX5_advance 87 = .ok (.baload, 1) := by decide +kernel
theorem dX5_advance_88 : decode cX5_advance 88 = .ok (.invokestatic 33, 3) := by decide +kernel
theorem dX5_advance_91 : decode cX5_advance 91 = .ok (.ifCond .eq 8, 3) := by decide +kernel
theorem dX5_advance_94 : decode cX5_advance 94 = .ok (.aload_n 0, 1) := by decide +kernel
theorem dX5_advance_95 : decode cX5_advance 95 = .ok (.invokevirtual 36, 3) := by decide +kernel
theorem dX5_advance_98 : decode cX5_advance 98 = .ok (.ireturn, 1) := by decide +kernel
theorem dX5_advance_99 : decode cX5_advance 99 = .ok (.aload_n 0, 1) := by decide +kernel
theorem dX5_advance_100 : decode cX5_advance 100 = .ok (.dup, 1) := by decide +kernel
theorem dX5_advance_101 : decode cX5_advance 101 = .ok (.getfield 19, 3) := by decide +kernel
theorem dX5_advance_104 : decode cX5_advance 104 = .ok (.iconst 1, 1) := by decide +kernel
theorem dX5_advance_105 : decode cX5_advance 105 = .ok (.iadd, 1) := by decide +kernel
theorem dX5_advance_106 : decode cX5_advance 106 = .ok (.putfield 19, 3) := by decide +kernel
theorem dX5_advance_109 : decode cX5_advance 109 = .ok (.aload_n 0, 1) := by decide +kernel
theorem dX5_advance_110 : decode cX5_advance 110 = .ok (.getfield 9, 3) := by decide +kernel
theorem dX5_advance_113 : decode cX5_advance 113 = .ok (.aload_n 0, 1) := by decide +kernel
theorem dX5_advance_114 : decode cX5_advance 114 = .ok (.getfield 22, 3) := by decide +kernel
theorem dX5_advance_117 : decode cX5_advance 117 = .ok (.baload, 1) := by decide +kernel
theorem dX5_advance_118 : decode cX5_advance 118 = .ok (.bipush 59, 2) := by decide +kernel
theorem dX5_advance_120 : decode cX5_advance 120 = .ok (.if_icmp .ne 7, 3) := by decide +kernel
theorem dX5_advance_123 : decode cX5_advance 123 = .ok (.iconst 3, 1) := by decide +kernel
theorem dX5_advance_124 : decode cX5_advance 124 = .ok (.goto 4, 3) := by decide +kernel
theorem dX5_advance_127 : decode cX5_advance 127 = .ok (.iconst 4, 1) := by decide +kernel
theorem dX5_advance_128 : decode cX5_advance 128 = .ok (.ireturn, 1) := by decide +kernel
set_option maxRecDepth 20000 in
theorem ggX5_takeName_X5_isLetter : GoodIn wsX5_takeName wsX5_isLetter := goodIn_r _ [7] (by decide +kernel) (by decide +kernel)
set_option maxRecDepth 20000 in
theorem gX5_takeName_X5_isLetter : GoodIn wsX5_takeName (va_wsS RX5 25 yX5_isLetter wsX5_isLetter) := goodIn_app (goodIn_of _ (by decide +kernel)) ggX5_takeName_X5_isLetter
theorem dX5_takeName_0 : decode cX5_takeName 0 = .ok (.aload_n 0, 1) := by decide +kernel
theorem dX5_takeName_1 : decode cX5_takeName 1 = .ok (.getfield 19, 3) := by decide +kernel
theorem dX5_takeName_4 : decode cX5_takeName 4 = .ok (.aload_n 0, 1) := by decide +kernel
theorem dX5_takeName_5 : decode cX5_takeName 5 = .ok (.getfield 15, 3) := by decide +kernel
theorem dX5_takeName_8 : decode cX5_takeName 8 = .ok (.if_icmp .ge 31, 3) := by decide +kernel
theorem dX5_takeName_11 : decode cX5_takeName 11 = .ok (.aload_n 0, 1) := by decide +kernel
theorem dX5_takeName_12 : decode cX5_takeName 12 = .ok (.getfield 9, 3) := by decide +kernel
theorem dX5_takeName_15 : decode cX5_takeName 15 = .ok (.aload_n 0, 1) := by decide +kernel
theorem dX5_takeName_16 : decode cX5_takeName 16 = .ok (.getfield 19, 3) := by decide +kernel
theorem dX5_takeName_19 : decode cX5_takeName 19 = .ok (.baload, 1) := by decide +kernel
theorem dX5_takeName_20 : decode cX5_takeName 20 = .ok (.invokestatic 25, 3) := by decide +kernel
theorem dX5_takeName_23 : decode cX5_takeName 23 = .ok (.ifCond .eq 16, 3) := by decide +kernel
theorem dX5_takeName_26 : decode cX5_takeName 26 = .ok (.aload_n 0, 1) := by decide +kernel
theorem dX5_takeName_27 : decode cX5_takeName 27 = .ok (.dup, 1) := by decide +kernel
theorem dX5_takeName_28 : decode cX5_takeName 28 = .ok (.getfield 19, 3) := by decide +kernel
theorem dX5_takeName_31 : decode cX5_takeName 31 = .ok (.iconst 1, 1) := by decide +kernel
theorem dX5_takeName_32 : decode cX5_takeName 32 = .ok (.iadd, 1) := by decide +kernel
theorem dX5_takeName_33 : decode cX5_takeName 33 = .ok (.putfield 19, 3) := by decide +kernel
theorem dX5_takeName_36 : decode cX5_takeName 36 = .ok (.goto (-36), 3) := by decide +kernel
theorem dX5_takeName_39 : decode cX5_takeName 39 = .ok (.iconst 1, 1) := by decide +kernel
theorem dX5_takeName_40 : decode cX5_takeName 40 = .ok (.ireturn, 1) := by decide +kernel
set_option maxRecDepth 20000 in
theorem ggX5_takeNumber_X5_isFigure : GoodIn wsX5_takeNumber wsX5_isFigure := goodIn_r _ [9] (by decide +kernel) (by decide +kernel)
set_option maxRecDepth 20000 in
theorem gX5_takeNumber_X5_isFigure : GoodIn wsX5_takeNumber (va_wsS RX5 33 yX5_isFigure wsX5_isFigure) := goodIn_app (goodIn_of _ (by decide +kernel)) ggX5_takeNumber_X5_isFigure
theorem dX5_takeNumber_0 : decode cX5_takeNumber 0 = .ok (.aload_n 0, 1) := by decide +kernel
theorem dX5_takeNumber_1 : decode cX5_takeNumber 1 = .ok (.iconst 0, 1) := by decide +kernel
theorem dX5_takeNumber_2 : decode cX5_takeNumber 2 = .ok (.putfield 39, 3) := by decide +kernel
theorem dX5_takeNumber_5 : decode cX5_takeNumber 5 = .ok (.aload_n 0, 1) := by decide +kernel
theorem dX5_takeNumber_6 : decode cX5_takeNumber 6 = .ok (.getfield 19, 3) := by decide +kernel
theorem dX5_takeNumber_9 : decode cX5_takeNumber 9 = .ok (.aload_n 0, 1) := by decide +kernel
theorem dX5_takeNumber_10 : decode cX5_takeNumber 10 = .ok (.getfield 15, 3) := by decide +kernel
theorem dX5_takeNumber_13 : decode cX5_takeNumber 13 = .ok (.if_icmp .ge 58, 3) := by decide +kernel
theorem dX5_takeNumber_16 : decode cX5_takeNumber 16 = .ok (.aload_n 0, 1) := by decide +kernel
theorem dX5_takeNumber_17 : decode cX5_takeNumber 17 = .ok (.getfield 9, 3) := by decide +kernel
theorem dX5_takeNumber_20 : decode cX5_takeNumber 20 = .ok (.aload_n 0, 1) := by decide +kernel
theorem dX5_takeNumber_21 : decode cX5_takeNumber 21 = .ok (.getfield 19, 3) := by decide +kernel
theorem dX5_takeNumber_24 : decode cX5_takeNumber 24 = .ok (.baload, 1) := by decide +kernel
theorem dX5_takeNumber_25 : decode cX5_takeNumber 25 = .ok (.invokestatic 33, 3) := by decide +kernel
theorem dX5_takeNumber_28 : decode cX5_takeNumber 28 = .ok (.ifCond .eq 43, 3) := by decide +kernel
theorem dX5_takeNumber_31 : decode cX5_takeNumber 31 = .ok (.aload_n 0, 1) := by decide +kernel
theorem dX5_takeNumber_32 : decode cX5_takeNumber 32 = .ok (.bipush 10, 2) := by decide +kernel
theorem dX5_takeNumber_34 : decode cX5_takeNumber 34 = .ok (.aload_n 0, 1) := by decide +kernel
theorem dX5_takeNumber_35 : decode cX5_takeNumber 35 = .ok (.getfield 39, 3) := by decide +kernel
theorem dX5_takeNumber_38 : decode cX5_takeNumber 38 = .ok (.imul, 1) := by decide +kernel
theorem dX5_takeNumber_39 : decode cX5_takeNumber 39 = .ok (.aload_n 0, 1) := by decide +kernel
theorem dX5_takeNumber_40 : decode cX5_takeNumber 40 = .ok (.getfield 9, 3) := by decide +kernel
theorem dX5_takeNumber_43 : decode cX5_takeNumber 43 = .ok (.aload_n 0, 1) := by decide +kernel
theorem dX5_takeNumber_44 : decode cX5_takeNumber 44 = .ok (.getfield 19, 3) := by decide +kernel
theorem dX5_takeNumber_47 : decode cX5_takeNumber 47 = .ok (.baload, 1) := by decide +kernel
theorem dX5_takeNumber_48 : decode cX5_takeNumber 48 = .ok (.iadd, 1) := by decide +kernel
theorem dX5_takeNumber_49 : decode cX5_takeNumber 49 = .ok (.bipush 48, 2) := by decide +kernel
theorem dX5_takeNumber_51 : decode cX5_takeNumber 51 = .ok (.isub, 1) := by decide +kernel
theorem dX5_takeNumber_52 : decode cX5_takeNumber 52 = .ok (.bipush 100, 2) := by decide +kernel
theorem dX5_takeNumber_54 : decode cX5_takeNumber 54 = .ok (.irem, 1) := by decide +kernel
theorem dX5_takeNumber_55 : decode cX5_takeNumber 55 = .ok (.putfield 39, 3) := by decide +kernel
theorem dX5_takeNumber_58 : decode cX5_takeNumber 58 = .ok (.aload_n 0, 1) := by decide +kernel
theorem dX5_takeNumber_59 : decode cX5_takeNumber 59 = .ok (.dup, 1) := by decide +kernel
theorem dX5_takeNumber_60 : decode cX5_takeNumber 60 = .ok (.getfield 19, 3) := by decide +kernel
theorem dX5_takeNumber_63 : decode cX5_takeNumber 63 = .ok (.iconst 1, 1) := by decide +kernel
theorem dX5_takeNumber_64 : decode cX5_takeNumber 64 = .ok (.iadd, 1) := by decide +kernel
theorem dX5_takeNumber_65 : decode cX5_takeNumber 65 = .ok (.putfield 19, 3) := by decide +kernel
theorem dX5_takeNumber_68 : decode cX5_takeNumber 68 = .ok (.goto (-63), 3) := by decide +kernel
theorem dX5_takeNumber_71 : decode cX5_takeNumber 71 = .ok (.aload_n 0, 1) := by decide +kernel
theorem dX5_takeNumber_72 : decode cX5_takeNumber 72 = .ok (.getfield 19, 3) := by decide +kernel
theorem dX5_takeNumber_75 : decode cX5_takeNumber 75 = .ok (.aload_n 0, 1) := by decide +kernel
theorem dX5_takeNumber_76 : decode cX5_takeNumber 76 = .ok (.getfield 22, 3) := by decide +kernel
theorem dX5_takeNumber_79 : decode cX5_takeNumber 79 = .ok (.isub, 1) := by decide +kernel
theorem dX5_takeNumber_80 : decode cX5_takeNumber 80 = .ok (.iconst 2, 1) := by decide +kernel
theorem dX5_takeNumber_81 : decode cX5_takeNumber 81 = .ok (.if_icmp .gt 7, 3) := by decide +kernel
theorem dX5_takeNumber_84 : decode cX5_takeNumber 84 = .ok (.iconst 2, 1) := by decide +kernel
theorem dX5_takeNumber_85 : decode cX5_takeNumber 85 = .ok (.goto 4, 3) := by decide +kernel
theorem dX5_takeNumber_88 : decode cX5_takeNumber 88 = .ok (.iconst 4, 1) := by decide +kernel
theorem dX5_takeNumber_89 : decode cX5_takeNumber 89 = .ok (.ireturn, 1) := by decide +kernel
set_option maxRecDepth 20000 in
theorem ggX5_nameIs_J0_length_8abf5 : GoodIn wsX5_nameIs wsJ0_length_8abf5 := goodIn_r _ [8, 9, 10, 11, 12, 7, 13, 14, 15] (by decide +kernel) (by decide +kernel)
set_option maxRecDepth 20000 in
theorem gX5_nameIs_J0_length_8abf5 : GoodIn wsX5_nameIs (wsV RX5 42 RJ0 yJ0_length_8abf5 wsJ0_length_8abf5) := goodIn_app (goodIn_of _ (by decide +kernel)) ggX5_nameIs_J0_length_8abf5
set_option maxRecDepth 20000 in
theorem ggX5_nameIs_J0_charAt_5068e : GoodIn wsX5_nameIs wsJ0_charAt_5068e := goodIn_r _ [19, 9, 20, 21, 22, 7, 23, 14, 15, 24, 25, 26, 27, 28, 29, 30, 31, 32, 33, 34, 35, 36, 37, 38, 39, 40, 41, 42, 43, 44, 45, 46, 47, 48, 49, 50, 51, 52] (by decide +kernel) (by decide +kernel)
set_option maxRecDepth 20000 in
theorem gX5_nameIs_J0_charAt_5068e : GoodIn wsX5_nameIs (wsV RX5 46 RJ0 yJ0_charAt_5068e wsJ0_charAt_5068e) := goodIn_app (goodIn_of _ (by decide +kernel)) ggX5_nameIs_J0_charAt_5068e
theorem dX5_nameIs_0 : decode cX5_nameIs 0 = .ok (.aload_n 0, 1) := by decide +kernel
theorem dX5_nameIs_1 : decode cX5_nameIs 1 = .ok (.getfield 19, 3) := by decide +kernel
theorem dX5_nameIs_4 : decode cX5_nameIs 4 = .ok (.aload_n 0, 1) := by decide +kernel
theorem dX5_nameIs_5 : decode cX5_nameIs 5 = .ok (.getfield 22, 3) := by decide +kernel
theorem dX5_nameIs_8 : decode cX5_nameIs 8 = .ok (.isub, 1) := by decide +kernel
theorem dX5_nameIs_9 : decode cX5_nameIs 9 = .ok (.aload_n 1, 1) := by decide +kernel
theorem dX5_nameIs_10 : decode cX5_nameIs 10 = .ok (.invokevirtual 42, 3) := by decide +kernel
theorem dX5_nameIs_13 : decode cX5_nameIs 13 = .ok (.if_icmp .eq 5, 3) := by decide +kernel
theorem dX5_nameIs_16 : decode cX5_nameIs 16 = .ok (.iconst 0, 1) := by decide +kernel
theorem dX5_nameIs_17 : decode cX5_nameIs 17 = .ok (.ireturn, 1) := by decide +kernel
theorem dX5_nameIs_18 : decode cX5_nameIs 18 = .ok (.iconst 0, 1) := by decide +kernel
theorem dX5_nameIs_19 : decode cX5_nameIs 19 = .ok (.istore_n 2, 1) := by decide +kernel
theorem dX5_nameIs_20 : decode cX5_nameIs 20 = .ok (.iload_n 2, 1) := by decide +kernel
theorem dX5_nameIs_21 : decode cX5_nameIs 21 = .ok (.aload_n 1, 1) := by decide +kernel
theorem dX5_nameIs_22 : decode cX5_nameIs 22 = .ok (.invokevirtual 42, 3) := by decide +kernel
theorem dX5_nameIs_25 : decode cX5_nameIs 25 = .ok (.if_icmp .ge 30, 3) := by decide +kernel
theorem dX5_nameIs_28 : decode cX5_nameIs 28 = .ok (.aload_n 0, 1) := by decide +kernel
theorem dX5_nameIs_29 : decode cX5_nameIs 29 = .ok (.getfield 9, 3) := by decide +kernel
theorem dX5_nameIs_32 : decode cX5_nameIs 32 = .ok (.aload_n 0, 1) := by decide +kernel
theorem dX5_nameIs_33 : decode cX5_nameIs 33 = .ok (.getfield 22, 3) := by decide +kernel
theorem dX5_nameIs_36 : decode cX5_nameIs 36 = .ok (.iload_n 2, 1) := by decide +kernel
theorem dX5_nameIs_37 : decode cX5_nameIs 37 = .ok (.iadd, 1) := by decide +kernel
theorem dX5_nameIs_38 : decode cX5_nameIs 38 = .ok (.baload, 1) := by decide +kernel
theorem dX5_nameIs_39 : decode cX5_nameIs 39 = .ok (.aload_n 1, 1) := by decide +kernel
theorem dX5_nameIs_40 : decode cX5_nameIs 40 = .ok (.iload_n 2, 1) := by decide +kernel
theorem dX5_nameIs_41 : decode cX5_nameIs 41 = .ok (.invokevirtual 46, 3) := by decide +kernel
theorem dX5_nameIs_44 : decode cX5_nameIs 44 = .ok (.if_icmp .eq 5, 3) := by decide +kernel
theorem dX5_nameIs_47 : decode cX5_nameIs 47 = .ok (.iconst 0, 1) := by decide +kernel
theorem dX5_nameIs_48 : decode cX5_nameIs 48 = .ok (.ireturn, 1) := by decide +kernel
theorem dX5_nameIs_49 : decode cX5_nameIs 49 = .ok (.iinc 2 1, 3) := by decide +kernel
theorem dX5_nameIs_52 : decode cX5_nameIs 52 = .ok (.goto (-32), 3) := by decide +kernel
theorem dX5_nameIs_55 : decode cX5_nameIs 55 = .ok (.iconst 1, 1) := by decide +kernel
theorem dX5_nameIs_56 : decode cX5_nameIs 56 = .ok (.ireturn, 1) := by decide +kernel
theorem dX5_isLetter_0 : decode cX5_isLetter 0 = .ok (.iload_n 0, 1) := by decide +kernel
theorem dX5_isLetter_1 : decode cX5_isLetter 1 = .ok (.bipush 97, 2) := by decide +kernel
theorem dX5_isLetter_3 : decode cX5_isLetter 3 = .ok (.if_icmp .lt 13, 3) := by decide +kernel
theorem dX5_isLetter_6 : decode cX5_isLetter 6 = .ok (.iload_n 0, 1) := by decide +kernel
theorem dX5_isLetter_7 : decode cX5_isLetter 7 = .ok (.bipush 122, 2) := by decide +kernel
theorem dX5_isLetter_9 : decode cX5_isLetter 9 = .ok (.if_icmp .gt 7, 3) := by decide +kernel
theorem dX5_isLetter_12 : decode cX5_isLetter 12 = .ok (.iconst 1, 1) := by decide +kernel
theorem dX5_isLetter_13 : decode cX5_isLetter 13 = .ok (.goto 4, 3) := by decide +kernel
theorem dX5_isLetter_16 : decode cX5_isLetter 16 = .ok (.iconst 0, 1) := by decide +kernel
theorem dX5_isLetter_17 : decode cX5_isLetter 17 = .ok (.ireturn, 1) := by decide +kernel
theorem dX5_isFigure_0 : decode cX5_isFigure 0 = .ok (.iload_n 0, 1) := by decide +kernel
theorem dX5_isFigure_1 : decode cX5_isFigure 1 = .ok (.bipush 48, 2) := by decide +kernel
theorem dX5_isFigure_3 : decode cX5_isFigure 3 = .ok (.if_icmp .lt 13, 3) := by decide +kernel
theorem dX5_isFigure_6 : decode cX5_isFigure 6 = .ok (.iload_n 0, 1) := by decide +kernel
theorem dX5_isFigure_7 : decode cX5_isFigure 7 = .ok (.bipush 57, 2) := by decide +kernel
theorem dX5_isFigure_9 : decode cX5_isFigure 9 = .ok (.if_icmp .gt 7, 3) := by decide +kernel
theorem dX5_isFigure_12 : decode cX5_isFigure 12 = .ok (.iconst 1, 1) := by decide +kernel
theorem dX5_isFigure_13 : decode cX5_isFigure 13 = .ok (.goto 4, 3) := by decide +kernel
theorem dX5_isFigure_16 : decode cX5_isFigure 16 = .ok (.iconst 0, 1) := by decide +kernel
theorem dX5_isFigure_17 : decode cX5_isFigure 17 = .ok (.ireturn, 1) := by decide +kernel
theorem dX6_init_0 : decode cX6_init 0 = .ok (.aload_n 0, 1) := by decide +kernel
theorem dX6_init_1 : decode cX6_init 1 = .ok (.invokespecial 3, 3) := by decide +kernel
theorem dX6_init_4 : decode cX6_init 4 = .ok (.aload_n 0, 1) := by decide +kernel
theorem dX6_init_5 : decode cX6_init 5 = .ok (.aload_n 1, 1) := by decide +kernel
theorem dX6_init_6 : decode cX6_init 6 = .ok (.putfield 9, 3) := by decide +kernel
theorem dX6_init_9 : decode cX6_init 9 = .ok (.aload_n 0, 1) := by decide +kernel
theorem dX6_init_10 : decode cX6_init 10 = .ok (.aload_n 2, 1) := by decide +kernel
theorem dX6_init_11 : decode cX6_init 11 = .ok (.putfield 15, 3) := by decide +kernel
theorem dX6_init_14 : decode cX6_init 14 = .ok (.return_, 1) := by decide +kernel
set_option maxRecDepth 20000 in
theorem ggX6_tellAll_X2_clear : GoodIn wsX6_tellAll wsX2_clear := goodIn_r _ [9, 10, 11, 12, 13, 14, 163, 164, 165, 166, 167, 168, 169] (by decide +kernel) (by decide +kernel)
set_option maxRecDepth 20000 in
theorem gX6_tellAll_X2_clear : GoodIn wsX6_tellAll (wsV RX6 19 RX2 yX2_clear wsX2_clear) := goodIn_app (goodIn_of _ (by decide +kernel)) ggX6_tellAll_X2_clear
set_option maxRecDepth 20000 in
theorem ggX6_tellAll_X5_advance : GoodIn wsX6_tellAll wsX5_advance := goodIn_r _ [19, 20, 21, 22, 23, 24, 25, 18, 26, 27, 28, 29, 30, 31, 32, 33, 34, 35, 36, 37, 38, 158, 159, 160, 161, 162] (by decide +kernel) (by decide +kernel)
set_option maxRecDepth 20000 in
theorem gX6_tellAll_X5_advance : GoodIn wsX6_tellAll (wsV RX6 33 RX5 yX5_advance wsX5_advance) := goodIn_app (goodIn_of _ (by decide +kernel)) ggX6_tellAll_X5_advance
set_option maxRecDepth 20000 in
theorem ggX6_tellAll_X6_tellLine : GoodIn wsX6_tellAll wsX6_tellLine := goodIn_r _ [43, 44, 45, 46, 42, 47, 48, 49, 50, 51, 2, 52, 53, 54, 55, 3, 56, 57, 58, 18, 59, 20, 23, 22, 60, 61, 62, 63, 64, 65, 66, 67, 68, 69, 70, 71, 72, 73, 74, 75, 76, 77, 78, 79, 80, 81, 82, 83, 84, 85, 86, 87, 88, 89, 90, 91, 92, 93, 94, 95, 96, 97, 98, 99, 100, 101, 102, 103, 104, 105, 106, 107, 108, 109, 110, 111, 112, 1, 113, 114, 115, 116, 117, 118, 15, 16, 17, 19, 21, 24, 25, 26, 27, 28, 29, 30, 31, 32, 33, 34, 35, 36, 37, 38, 119, 120, 121, 122, 123, 124, 125, 8, 126, 11, 127, 128, 129, 130, 131, 132, 133, 134, 135, 136, 137, 138, 139, 140, 141, 142, 143, 144, 10, 145, 146, 147, 148, 149, 150, 151, 152, 153, 154, 155, 156, 157, 158, 159, 160, 161, 162, 163, 164, 165, 166, 167, 168, 169, 170, 171, 172, 173, 174, 175, 176, 177, 178] (by decide +kernel) (by decide +kernel)
set_option maxRecDepth 20000 in
theorem gX6_tellAll_X6_tellLine : GoodIn wsX6_tellAll (wsV RX6 37 RX6 yX6_tellLine wsX6_tellLine) := goodIn_app (goodIn_of _ (by decide +kernel)) ggX6_tellAll_X6_tellLine
theorem dX6_tellAll_0 : decode cX6_tellAll 0 = .ok (.aload_n 0, 1) := by decide +kernel
theorem dX6_tellAll_1 : decode cX6_tellAll 1 = .ok (.getfield 15, 3) := by decide +kernel
theorem dX6_tellAll_4 : decode cX6_tellAll 4 = .ok (.invokevirtual 19, 3) := by decide +kernel
theorem dX6_tellAll_7 : decode cX6_tellAll 7 = .ok (.aload_n 0, 1) := by decide +kernel
theorem dX6_tellAll_8 : decode cX6_tellAll 8 = .ok (.iconst 0, 1) := by decide +kernel
theorem dX6_tellAll_9 : decode cX6_tellAll 9 = .ok (.putfield 24, 3) := by decide +kernel
theorem dX6_tellAll_12 : decode cX6_tellAll 12 = .ok (.aload_n 0, 1) := by decide +kernel
theorem dX6_tellAll_13 : decode cX6_tellAll 13 = .ok (.getfield 9, 3) := by decide +kernel
theorem dX6_tellAll_16 : decode cX6_tellAll 16 = .ok (.iconst 0, 1) := by decide +kernel
theorem dX6_tellAll_17 : decode cX6_tellAll 17 = .ok (.putfield 28, 3) := by decide +kernel
theorem dX6_tellAll_20 : decode cX6_tellAll 20 = .ok (.iconst 0, 1) := by decide +kernel
theorem dX6_tellAll_21 : decode cX6_tellAll 21 = .ok (.istore_n 1, 1) := by decide +kernel
theorem dX6_tellAll_22 : decode cX6_tellAll 22 = .ok (.iconst 0, 1) := by decide +kernel
theorem dX6_tellAll_23 : decode cX6_tellAll 23 = .ok (.istore_n 2, 1) := by decide +kernel
theorem dX6_tellAll_24 : decode cX6_tellAll 24 = .ok (.iload_n 2, 1) := by decide +kernel
theorem dX6_tellAll_25 : decode cX6_tellAll 25 = .ok (.sipush 160, 3) := by decide +kernel
theorem dX6_tellAll_28 : decode cX6_tellAll 28 = .ok (.if_icmp .gt 35, 3) := by decide +kernel
theorem dX6_tellAll_31 : decode cX6_tellAll 31 = .ok (.aload_n 0, 1) := by decide +kernel
theorem dX6_tellAll_32 : decode cX6_tellAll 32 = .ok (.getfield 9, 3) := by decide +kernel
theorem dX6_tellAll_35 : decode cX6_tellAll 35 = .ok (.invokevirtual 33, 3) := by decide +kernel
theorem dX6_tellAll_38 : decode cX6_tellAll 38 = .ok (.istore_n 3, 1) := by decide +kernel
theorem dX6_tellAll_39 : decode cX6_tellAll 39 = .ok (.iload_n 3, 1) := by decide +kernel
theorem dX6_tellAll_40 : decode cX6_tellAll 40 = .ok (.ifCond .eq 23, 3) := by decide +kernel
theorem dX6_tellAll_43 : decode cX6_tellAll 43 = .ok (.aload_n 0, 1) := by decide +kernel
theorem dX6_tellAll_44 : decode cX6_tellAll 44 = .ok (.iload_n 3, 1) := by decide +kernel
theorem dX6_tellAll_45 : decode cX6_tellAll 45 = .ok (.invokevirtual 37, 3) := by decide +kernel
theorem dX6_tellAll_48 : decode cX6_tellAll 48 = .ok (.ifCond .ne 6, 3) := by decide +kernel
theorem dX6_tellAll_51 : decode cX6_tellAll 51 = .ok (.goto 12, 3) := by decide +kernel
theorem dX6_tellAll_54 : decode cX6_tellAll 54 = .ok (.iinc 1 1, 3) := by decide +kernel
theorem dX6_tellAll_57 : decode cX6_tellAll 57 = .ok (.iinc 2 1, 3) := by decide +kernel
theorem dX6_tellAll_60 : decode cX6_tellAll 60 = .ok (.goto (-36), 3) := by decide +kernel
theorem dX6_tellAll_63 : decode cX6_tellAll 63 = .ok (.iload_n 1, 1) := by decide +kernel
theorem dX6_tellAll_64 : decode cX6_tellAll 64 = .ok (.ireturn, 1) := by decide +kernel
set_option maxRecDepth 20000 in
theorem ggX6_tellLine_X6_expect : GoodIn wsX6_tellLine wsX6_expect := goodIn_r _ [5, 6, 7, 8, 4, 9, 10, 143, 144, 145] (by decide +kernel) (by decide +kernel)
set_option maxRecDepth 20000 in
theorem gX6_tellLine_X6_expect : GoodIn wsX6_tellLine (wsV RX6 41 RX6 yX6_expect wsX6_expect) := goodIn_app (goodIn_of _ (by decide +kernel)) ggX6_tellLine_X6_expect
set_option maxRecDepth 20000 in
theorem ggX6_tellLine_X6_lineBegun : GoodIn wsX6_tellLine wsX6_lineBegun := goodIn_r _ [14, 15, 16, 17, 18, 19, 20, 21, 22, 23, 24, 25, 26, 27, 28, 29, 30, 31, 32, 33, 34, 35, 36, 37, 38, 39, 40, 41, 42, 43, 44, 45, 46, 47, 48, 49, 50, 51, 52, 53, 54, 55, 56, 57, 58, 59, 60, 61, 62, 63, 64, 65, 66, 67, 68, 69, 70, 71, 72, 143, 144, 145, 146, 147, 148, 149, 150] (by decide +kernel) (by decide +kernel)
set_option maxRecDepth 20000 in
theorem gX6_tellLine_X6_lineBegun : GoodIn wsX6_tellLine (wsV RX6 45 RX6 yX6_lineBegun wsX6_lineBegun) := goodIn_app (goodIn_of _ (by decide +kernel)) ggX6_tellLine_X6_lineBegun
set_option maxRecDepth 20000 in
theorem ggX6_tellLine_X6_fail : GoodIn wsX6_tellLine wsX6_fail := goodIn_r _ [9, 10, 143, 144, 145] (by decide +kernel) (by decide +kernel)
set_option maxRecDepth 20000 in
theorem gX6_tellLine_X6_fail : GoodIn wsX6_tellLine (wsV RX6 48 RX6 yX6_fail wsX6_fail) := goodIn_app (goodIn_of _ (by decide +kernel)) ggX6_tellLine_X6_fail
set_option maxRecDepth 20000 in
theorem ggX6_tellLine_X6_tellCrowd : GoodIn wsX6_tellLine wsX6_tellCrowd := goodIn_r _ [76, 77, 78, 15, 79, 6, 7, 8, 4, 9, 10, 80, 81, 82, 83, 84, 85, 86, 19, 87, 21, 88, 23, 22, 89, 90, 91, 92, 93, 94, 95, 96, 97, 98, 99, 100, 101, 102, 103, 1, 2, 3, 5, 104, 105, 106, 107, 108, 109, 110, 111, 112, 113, 114, 115, 116, 117, 118, 119, 120, 121, 122, 143, 144, 145, 151, 152, 153, 154, 155, 156, 157, 146, 147, 148, 149, 150, 158, 159, 160] (by decide +kernel) (by decide +kernel)
set_option maxRecDepth 20000 in
theorem gX6_tellLine_X6_tellCrowd : GoodIn wsX6_tellLine (wsV RX6 51 RX6 yX6_tellCrowd wsX6_tellCrowd) := goodIn_app (goodIn_of _ (by decide +kernel)) ggX6_tellLine_X6_tellCrowd
set_option maxRecDepth 20000 in
theorem ggX6_tellLine_X6_tellDoor : GoodIn wsX6_tellLine wsX6_tellDoor := goodIn_r _ [126, 77, 127, 15, 79, 6, 7, 8, 4, 9, 10, 80, 81, 82, 83, 84, 85, 86, 19, 87, 21, 88, 23, 22, 89, 90, 91, 92, 93, 94, 95, 96, 97, 98, 99, 100, 101, 102, 103, 1, 2, 3, 5, 104, 105, 106, 107, 128, 129, 130, 111, 131, 132, 133, 134, 135, 136, 137, 138, 139, 140, 141, 142, 143, 144, 145, 151, 152, 153, 154, 155, 156, 157, 146, 147, 148, 149, 150, 161, 162, 163, 164, 165, 166] (by decide +kernel) (by decide +kernel)
set_option maxRecDepth 20000 in
theorem gX6_tellLine_X6_tellDoor : GoodIn wsX6_tellLine (wsV RX6 55 RX6 yX6_tellDoor wsX6_tellDoor) := goodIn_app (goodIn_of _ (by decide +kernel)) ggX6_tellLine_X6_tellDoor
theorem dX6_tellLine_0 : decode cX6_tellLine 0 = .ok (.aload_n 0, 1) := by decide +kernel
theorem dX6_tellLine_1 : decode cX6_tellLine 1 = .ok (.iload_n 1, 1) := by decide +kernel
theorem dX6_tellLine_2 : decode cX6_tellLine 2 = .ok (.iconst 1, 1) := by decide +kernel
theorem dX6_tellLine_3 : decode cX6_tellLine 3 = .ok (.invokevirtual 41, 3) := by decide +kernel
theorem dX6_tellLine_6 : decode cX6_tellLine 6 = .ok (.ifCond .ne 5, 3) := by decide +kernel
theorem dX6_tellLine_9 : decode cX6_tellLine 9 = .ok (.iconst 0, 1) := by decide +kernel
theorem dX6_tellLine_10 : decode cX6_tellLine 10 = .ok (.ireturn, 1) := by decide +kernel
theorem dX6_tellLine_11 : decode cX6_tellLine 11 = .ok (.aload_n 0, 1) := by decide +kernel
theorem dX6_tellLine_12 : decode cX6_tellLine 12 = .ok (.invokevirtual 45, 3) := by decide +kernel
theorem dX6_tellLine_15 : decode cX6_tellLine 15 = .ok (.istore_n 2, 1) := by decide +kernel
theorem dX6_tellLine_16 : decode cX6_tellLine 16 = .ok (.iload_n 2, 1) := by decide +kernel
theorem dX6_tellLine_17 : decode cX6_tellLine 17 = .ok (.iconst 5, 1) := by decide +kernel
theorem dX6_tellLine_18 : decode cX6_tellLine 18 = .ok (.if_icmp .ne 9, 3) := by decide +kernel
theorem dX6_tellLine_21 : decode cX6_tellLine 21 = .ok (.aload_n 0, 1) := by decide +kernel
theorem dX6_tellLine_22 : decode cX6_tellLine 22 = .ok (.iconst 2, 1) := by decide +kernel
theorem dX6_tellLine_23 : decode cX6_tellLine 23 = .ok (.invokevirtual 48, 3) := by decide +kernel
theorem dX6_tellLine_26 : decode cX6_tellLine 26 = .ok (.ireturn, 1) := by decide +kernel
theorem dX6_tellLine_27 : decode cX6_tellLine 27 = .ok (.iload_n 2, 1) := by decide +kernel
theorem dX6_tellLine_28 : decode cX6_tellLine 28 = .ok (.iconst 4, 1) := by decide +kernel
theorem dX6_tellLine_29 : decode cX6_tellLine 29 = .ok (.if_icmp .ne 10, 3) := by decide +kernel
theorem dX6_tellLine_32 : decode cX6_tellLine 32 = .ok (.aload_n 0, 1) := by decide +kernel
theorem dX6_tellLine_33 : decode cX6_tellLine 33 = .ok (.invokevirtual 51, 3) := by decide +kernel
theorem dX6_tellLine_36 : decode cX6_tellLine 36 = .ok (.goto 8, 3) := by decide +kernel
theorem dX6_tellLine_39 : decode cX6_tellLine 39 = .ok (.aload_n 0, 1) := by decide +kernel
theorem dX6_tellLine_40 : decode cX6_tellLine 40 = .ok (.iload_n 2, 1) := by decide +kernel
theorem dX6_tellLine_41 : decode cX6_tellLine 41 = .ok (.invokevirtual 55, 3) := by decide +kernel
theorem dX6_tellLine_44 : decode cX6_tellLine 44 = .ok (.ireturn, 1) := by decide +kernel
set_option maxRecDepth 20000 in
theorem ggX6_lineBegun_X5_nameIs : GoodIn wsX6_lineBegun wsX5_nameIs := goodIn_r _ [6, 7, 8, 9, 10, 11, 12, 13, 14, 15, 16, 17, 18, 19, 20, 21, 22, 23, 24, 25, 26, 27, 28, 29, 30, 31, 32, 33, 34, 35, 36, 37, 38, 39, 40, 41, 42, 43, 44, 45, 46, 47, 48, 49, 50, 51, 52, 53, 54, 55, 56, 57, 58, 62, 63, 64, 65, 66] (by decide +kernel) (by decide +kernel)
set_option maxRecDepth 20000 in
theorem gX6_lineBegun_X5_nameIs : GoodIn wsX6_lineBegun (wsV RX6 60 RX5 yX5_nameIs wsX5_nameIs) := goodIn_app (goodIn_of _ (by decide +kernel)) ggX6_lineBegun_X5_nameIs
theorem dX6_lineBegun_0 : decode cX6_lineBegun 0 = .ok (.aload_n 0, 1) := by decide +kernel
theorem dX6_lineBegun_1 : decode cX6_lineBegun 1 = .ok (.getfield 9, 3) := by decide +kernel
theorem dX6_lineBegun_4 : decode cX6_lineBegun 4 = .ok (.ldc 58, 2) := by decide +kernel
theorem dX6_lineBegun_6 : decode cX6_lineBegun 6 = .ok (.invokevirtual 60, 3) := by decide +kernel
theorem dX6_lineBegun_9 : decode cX6_lineBegun 9 = .ok (.ifCond .eq 5, 3) := by decide +kernel
theorem dX6_lineBegun_12 : decode cX6_lineBegun 12 = .ok (.iconst 0, 1) := by decide +kernel
theorem dX6_lineBegun_13 : decode cX6_lineBegun 13 = .ok (.ireturn, 1) := by decide +kernel
theorem dX6_lineBegun_14 : decode cX6_lineBegun 14 = .ok (.aload_n 0, 1) := by decide +kernel
theorem dX6_lineBegun_15 : decode cX6_lineBegun 15 = .ok (.getfield 9, 3) := by decide +kernel
theorem dX6_lineBegun_18 : decode cX6_lineBegun 18 = .ok (.ldc 64, 2) := by decide +kernel
theorem dX6_lineBegun_20 : decode cX6_lineBegun 20 = .ok (.invokevirtual 60, 3) := by decide +kernel
theorem dX6_lineBegun_23 : decode cX6_lineBegun 23 = .ok (.ifCond .eq 5, 3) := by decide +kernel
theorem dX6_lineBegun_26 : decode cX6_lineBegun 26 = .ok (.iconst 1, 1) := by decide +kernel
theorem dX6_lineBegun_27 : decode cX6_lineBegun 27 = .ok (.ireturn, 1) := by decide +kernel
theorem dX6_lineBegun_28 : decode cX6_lineBegun 28 = .ok (.aload_n 0, 1) := by decide +kernel
theorem dX6_lineBegun_29 : decode cX6_lineBegun 29 = .ok (.getfield 9, 3) := by decide +kernel
theorem dX6_lineBegun_32 : decode cX6_lineBegun 32 = .ok (.ldc 66, 2) := by decide +kernel
theorem dX6_lineBegun_34 : decode cX6_lineBegun 34 = .ok (.invokevirtual 60, 3) := by decide +kernel
theorem dX6_lineBegun_37 : decode cX6_lineBegun 37 = .ok (.ifCond .eq 5, 3) := by decide +kernel
theorem dX6_lineBegun_40 : decode cX6_lineBegun 40 = .ok (.iconst 2, 1) := by decide +kernel
theorem dX6_lineBegun_41 : decode cX6_lineBegun 41 = .ok (.ireturn, 1) := by decide +kernel
theorem dX6_lineBegun_42 : decode cX6_lineBegun 42 = .ok (.aload_n 0, 1) := by decide +kernel
theorem dX6_lineBegun_43 : decode cX6_lineBegun 43 = .ok (.getfield 9, 3) := by decide +kernel
theorem dX6_lineBegun_46 : decode cX6_lineBegun 46 = .ok (.ldc 68, 2) := by decide +kernel
theorem dX6_lineBegun_48 : decode cX6_lineBegun 48 = .ok (.invokevirtual 60, 3) := by decide +kernel
theorem dX6_lineBegun_51 : decode cX6_lineBegun 51 = .ok (.ifCond .eq 5, 3) := by decide +kernel
theorem dX6_lineBegun_54 : decode cX6_lineBegun 54 = .ok (.iconst 3, 1) := by decide +kernel
theorem dX6_lineBegun_55 : decode cX6_lineBegun 55 = .ok (.ireturn, 1) := by decide +kernel
theorem dX6_lineBegun_56 : decode cX6_lineBegun 56 = .ok (.aload_n 0, 1) := by decide +kernel
theorem dX6_lineBegun_57 : decode cX6_lineBegun 57 = .ok (.getfield 9, 3) := by decide +kernel
theorem dX6_lineBegun_60 : decode cX6_lineBegun 60 = .ok (.ldc 70, 2) := by decide +kernel
theorem dX6_lineBegun_62 : decode cX6_lineBegun 62 = .ok (.invokevirtual 60, 3) := by decide +kernel
theorem dX6_lineBegun_65 : decode cX6_lineBegun 65 = .ok (.ifCond .eq 7, 3) := by decide +kernel
theorem dX6_lineBegun_68 : decode cX6_lineBegun 68 = .ok (.iconst 4, 1) := by decide +kernel
theorem dX6_lineBegun_69 : decode cX6_lineBegun 69 = .ok (.goto 4, 3) := by decide +kernel
theorem dX6_lineBegun_72 : decode cX6_lineBegun 72 = .ok (.iconst 5, 1) := by decide +kernel
theorem dX6_lineBegun_73 : decode cX6_lineBegun 73 = .ok (.ireturn, 1) := by decide +kernel
set_option maxRecDepth 20000 in
theorem ggX6_tellDoor_X6_fail : GoodIn wsX6_tellDoor wsX6_fail := goodIn_r _ [9, 10, 63, 64, 65] (by decide +kernel) (by decide +kernel)
set_option maxRecDepth 20000 in
theorem gX6_tellDoor_X6_fail : GoodIn wsX6_tellDoor (wsV RX6 48 RX6 yX6_fail wsX6_fail) := goodIn_app (goodIn_of _ (by decide +kernel)) ggX6_tellDoor_X6_fail
set_option maxRecDepth 20000 in
theorem ggX6_tellDoor_X6_takeNumber : GoodIn wsX6_tellDoor wsX6_takeNumber := goodIn_r _ [14, 3, 4, 15, 16, 17, 18, 19, 20, 21, 22, 23, 24, 25, 26, 27, 28, 29, 30, 31, 32, 33, 34, 35, 36, 37, 38, 39, 40, 41, 8, 42, 5, 6, 7, 9, 10, 63, 64, 65, 73, 74, 75, 76, 77] (by decide +kernel) (by decide +kernel)
set_option maxRecDepth 20000 in
theorem gX6_tellDoor_X6_takeNumber : GoodIn wsX6_tellDoor (wsV RX6 75 RX6 yX6_takeNumber wsX6_takeNumber) := goodIn_app (goodIn_of _ (by decide +kernel)) ggX6_tellDoor_X6_takeNumber
set_option maxRecDepth 20000 in
theorem ggX6_tellDoor_X6_takeStop : GoodIn wsX6_tellDoor wsX6_takeStop := goodIn_r _ [46, 3, 15, 16, 17, 18, 19, 20, 21, 22, 23, 24, 25, 26, 27, 28, 29, 30, 31, 32, 33, 34, 35, 36, 37, 38, 39, 40, 41, 8, 42, 5, 6, 7, 9, 10, 63, 64, 65, 73, 74, 75, 76, 77] (by decide +kernel) (by decide +kernel)
set_option maxRecDepth 20000 in
theorem gX6_tellDoor_X6_takeStop : GoodIn wsX6_tellDoor (wsV RX6 81 RX6 yX6_takeStop wsX6_takeStop) := goodIn_app (goodIn_of _ (by decide +kernel)) ggX6_tellDoor_X6_takeStop
set_option maxRecDepth 20000 in
theorem ggX6_tellDoor_X2_addDoor : GoodIn wsX6_tellDoor wsX2_addDoor := goodIn_r _ [51, 52, 53, 54, 55, 56, 57, 58, 59, 60, 61, 62, 66, 67, 68, 69, 70, 71, 72, 78, 79, 80, 81, 82, 83] (by decide +kernel) (by decide +kernel)
set_option maxRecDepth 20000 in
theorem gX6_tellDoor_X2_addDoor : GoodIn wsX6_tellDoor (wsV RX6 84 RX2 yX2_addDoor wsX2_addDoor) := goodIn_app (goodIn_of _ (by decide +kernel)) ggX6_tellDoor_X2_addDoor
theorem dX6_tellDoor_0 : decode cX6_tellDoor 0 = .ok (.aload_n 0, 1) := by decide +kernel
theorem dX6_tellDoor_1 : decode cX6_tellDoor 1 = .ok (.getfield 15, 3) := by decide +kernel
theorem dX6_tellDoor_4 : decode cX6_tellDoor 4 = .ok (.getfield 72, 3) := by decide +kernel
theorem dX6_tellDoor_7 : decode cX6_tellDoor 7 = .ok (.iconst 4, 1) := by decide +kernel
theorem dX6_tellDoor_8 : decode cX6_tellDoor 8 = .ok (.if_icmp .lt 9, 3) := by decide +kernel
theorem dX6_tellDoor_11 : decode cX6_tellDoor 11 = .ok (.aload_n 0, 1) := by decide +kernel
theorem dX6_tellDoor_12 : decode cX6_tellDoor 12 = .ok (.iconst 5, 1) := by decide +kernel
theorem dX6_tellDoor_13 : decode cX6_tellDoor 13 = .ok (.invokevirtual 48, 3) := by decide +kernel
theorem dX6_tellDoor_16 : decode cX6_tellDoor 16 = .ok (.ireturn, 1) := by decide +kernel
theorem dX6_tellDoor_17 : decode cX6_tellDoor 17 = .ok (.aload_n 0, 1) := by decide +kernel
theorem dX6_tellDoor_18 : decode cX6_tellDoor 18 = .ok (.iconst 1, 1) := by decide +kernel
theorem dX6_tellDoor_19 : decode cX6_tellDoor 19 = .ok (.bipush 9, 2) := by decide +kernel
theorem dX6_tellDoor_21 : decode cX6_tellDoor 21 = .ok (.invokevirtual 75, 3) := by decide +kernel
theorem dX6_tellDoor_24 : decode cX6_tellDoor 24 = .ok (.ifCond .ne 5, 3) := by decide +kernel
theorem dX6_tellDoor_27 : decode cX6_tellDoor 27 = .ok (.iconst 0, 1) := by decide +kernel
theorem dX6_tellDoor_28 : decode cX6_tellDoor 28 = .ok (.ireturn, 1) := by decide +kernel
theorem dX6_tellDoor_29 : decode cX6_tellDoor 29 = .ok (.aload_n 0, 1) := by decide +kernel
theorem dX6_tellDoor_30 : decode cX6_tellDoor 30 = .ok (.getfield 9, 3) := by decide +kernel
theorem dX6_tellDoor_33 : decode cX6_tellDoor 33 = .ok (.getfield 78, 3) := by decide +kernel
theorem dX6_tellDoor_36 : decode cX6_tellDoor 36 = .ok (.istore_n 2, 1) := by decide +kernel
theorem dX6_tellDoor_37 : decode cX6_tellDoor 37 = .ok (.aload_n 0, 1) := by decide +kernel
theorem dX6_tellDoor_38 : decode cX6_tellDoor 38 = .ok (.iconst 0, 1) := by decide +kernel
theorem dX6_tellDoor_39 : decode cX6_tellDoor 39 = .ok (.bipush 9, 2) := by decide +kernel
theorem dX6_tellDoor_41 : decode cX6_tellDoor 41 = .ok (.invokevirtual 75, 3) := by decide +kernel
theorem dX6_tellDoor_44 : decode cX6_tellDoor 44 = .ok (.ifCond .ne 5, 3) := by decide +kernel
theorem dX6_tellDoor_47 : decode cX6_tellDoor 47 = .ok (.iconst 0, 1) := by decide +kernel
theorem dX6_tellDoor_48 : decode cX6_tellDoor 48 = .ok (.ireturn, 1) := by decide +kernel
theorem dX6_tellDoor_49 : decode cX6_tellDoor 49 = .ok (.aload_n 0, 1) := by decide +kernel
theorem dX6_tellDoor_50 : decode cX6_tellDoor 50 = .ok (.getfield 9, 3) := by decide +kernel
theorem dX6_tellDoor_53 : decode cX6_tellDoor 53 = .ok (.getfield 78, 3) := by decide +kernel
theorem dX6_tellDoor_56 : decode cX6_tellDoor 56 = .ok (.istore_n 3, 1) := by decide +kernel
theorem dX6_tellDoor_57 : decode cX6_tellDoor 57 = .ok (.aload_n 0, 1) := by decide +kernel
theorem dX6_tellDoor_58 : decode cX6_tellDoor 58 = .ok (.invokevirtual 81, 3) := by decide +kernel
theorem dX6_tellDoor_61 : decode cX6_tellDoor 61 = .ok (.ifCond .eq 20, 3) := by decide +kernel
theorem dX6_tellDoor_64 : decode cX6_tellDoor 64 = .ok (.aload_n 0, 1) := by decide +kernel
theorem dX6_tellDoor_65 : decode cX6_tellDoor 65 = .ok (.getfield 15, 3) := by decide +kernel
theorem dX6_tellDoor_68 : decode cX6_tellDoor 68 = .ok (.iload_n 1, 1) := by decide +kernel
theorem dX6_tellDoor_69 : decode cX6_tellDoor 69 = .ok (.iload_n 2, 1) := by decide +kernel
theorem dX6_tellDoor_70 : decode cX6_tellDoor 70 = .ok (.iload_n 3, 1) := by decide +kernel
theorem dX6_tellDoor_71 : decode cX6_tellDoor 71 = .ok (.invokevirtual 84, 3) := by decide +kernel
theorem dX6_tellDoor_74 : decode cX6_tellDoor 74 = .ok (.ifCond .eq 7, 3) := by decide +kernel
theorem dX6_tellDoor_77 : decode cX6_tellDoor 77 = .ok (.iconst 1, 1) := by decide +kernel
theorem dX6_tellDoor_78 : decode cX6_tellDoor 78 = .ok (.goto 4, 3) := by decide +kernel
theorem dX6_tellDoor_81 : decode cX6_tellDoor 81 = .ok (.iconst 0, 1) := by decide +kernel
theorem dX6_tellDoor_82 : decode cX6_tellDoor 82 = .ok (.ireturn, 1) := by decide +kernel
set_option maxRecDepth 20000 in
theorem ggX6_tellCrowd_X6_fail : GoodIn wsX6_tellCrowd wsX6_fail := goodIn_r _ [9, 10, 62, 63, 64] (by decide +kernel) (by decide +kernel)
set_option maxRecDepth 20000 in
theorem gX6_tellCrowd_X6_fail : GoodIn wsX6_tellCrowd (wsV RX6 48 RX6 yX6_fail wsX6_fail) := goodIn_app (goodIn_of _ (by decide +kernel)) ggX6_tellCrowd_X6_fail
set_option maxRecDepth 20000 in
theorem ggX6_tellCrowd_X6_takeNumber : GoodIn wsX6_tellCrowd wsX6_takeNumber := goodIn_r _ [14, 3, 4, 15, 16, 17, 18, 19, 20, 21, 22, 23, 24, 25, 26, 27, 28, 29, 30, 31, 32, 33, 34, 35, 36, 37, 38, 39, 40, 41, 8, 42, 5, 6, 7, 9, 10, 62, 63, 64, 72, 73, 74, 75, 76] (by decide +kernel) (by decide +kernel)
set_option maxRecDepth 20000 in
theorem gX6_tellCrowd_X6_takeNumber : GoodIn wsX6_tellCrowd (wsV RX6 75 RX6 yX6_takeNumber wsX6_takeNumber) := goodIn_app (goodIn_of _ (by decide +kernel)) ggX6_tellCrowd_X6_takeNumber
set_option maxRecDepth 20000 in
theorem ggX6_tellCrowd_X6_takeStop : GoodIn wsX6_tellCrowd wsX6_takeStop := goodIn_r _ [46, 3, 15, 16, 17, 18, 19, 20, 21, 22, 23, 24, 25, 26, 27, 28, 29, 30, 31, 32, 33, 34, 35, 36, 37, 38, 39, 40, 41, 8, 42, 5, 6, 7, 9, 10, 62, 63, 64, 72, 73, 74, 75, 76] (by decide +kernel) (by decide +kernel)
set_option maxRecDepth 20000 in
theorem gX6_tellCrowd_X6_takeStop : GoodIn wsX6_tellCrowd (wsV RX6 81 RX6 yX6_takeStop wsX6_takeStop) := goodIn_app (goodIn_of _ (by decide +kernel)) ggX6_tellCrowd_X6_takeStop
set_option maxRecDepth 20000 in
theorem ggX6_tellCrowd_X2_addCrowd : GoodIn wsX6_tellCrowd wsX2_addCrowd := goodIn_r _ [51, 52, 53, 54, 55, 56, 57, 58, 59, 60, 61, 65, 66, 67, 68, 69, 70, 71, 77, 78, 79] (by decide +kernel) (by decide +kernel)
set_option maxRecDepth 20000 in
theorem gX6_tellCrowd_X2_addCrowd : GoodIn wsX6_tellCrowd (wsV RX6 91 RX2 yX2_addCrowd wsX2_addCrowd) := goodIn_app (goodIn_of _ (by decide +kernel)) ggX6_tellCrowd_X2_addCrowd
theorem dX6_tellCrowd_0 : decode cX6_tellCrowd 0 = .ok (.aload_n 0, 1) := by decide +kernel
theorem dX6_tellCrowd_1 : decode cX6_tellCrowd 1 = .ok (.getfield 15, 3) := by decide +kernel
theorem dX6_tellCrowd_4 : decode cX6_tellCrowd 4 = .ok (.getfield 88, 3) := by decide +kernel
theorem dX6_tellCrowd_7 : decode cX6_tellCrowd 7 = .ok (.bipush 8, 2) := by decide +kernel
theorem dX6_tellCrowd_9 : decode cX6_tellCrowd 9 = .ok (.if_icmp .lt 9, 3) := by decide +kernel
theorem dX6_tellCrowd_12 : decode cX6_tellCrowd 12 = .ok (.aload_n 0, 1) := by decide +kernel
theorem dX6_tellCrowd_13 : decode cX6_tellCrowd 13 = .ok (.iconst 5, 1) := by decide +kernel
theorem dX6_tellCrowd_14 : decode cX6_tellCrowd 14 = .ok (.invokevirtual 48, 3) := by decide +kernel
theorem dX6_tellCrowd_17 : decode cX6_tellCrowd 17 = .ok (.ireturn, 1) := by decide +kernel
theorem dX6_tellCrowd_18 : decode cX6_tellCrowd 18 = .ok (.aload_n 0, 1) := by decide +kernel
theorem dX6_tellCrowd_19 : decode cX6_tellCrowd 19 = .ok (.iconst 0, 1) := by decide +kernel
theorem dX6_tellCrowd_20 : decode cX6_tellCrowd 20 = .ok (.bipush 99, 2) := by decide +kernel
theorem dX6_tellCrowd_22 : decode cX6_tellCrowd 22 = .ok (.invokevirtual 75, 3) := by decide +kernel
theorem dX6_tellCrowd_25 : decode cX6_tellCrowd 25 = .ok (.ifCond .ne 5, 3) := by decide +kernel
theorem dX6_tellCrowd_28 : decode cX6_tellCrowd 28 = .ok (.iconst 0, 1) := by decide +kernel
theorem dX6_tellCrowd_29 : decode cX6_tellCrowd 29 = .ok (.ireturn, 1) := by decide +kernel
theorem dX6_tellCrowd_30 : decode cX6_tellCrowd 30 = .ok (.aload_n 0, 1) := by decide +kernel
theorem dX6_tellCrowd_31 : decode cX6_tellCrowd 31 = .ok (.getfield 9, 3) := by decide +kernel
theorem dX6_tellCrowd_34 : decode cX6_tellCrowd 34 = .ok (.getfield 78, 3) := by decide +kernel
theorem dX6_tellCrowd_37 : decode cX6_tellCrowd 37 = .ok (.istore_n 1, 1) := by decide +kernel
theorem dX6_tellCrowd_38 : decode cX6_tellCrowd 38 = .ok (.aload_n 0, 1) := by decide +kernel
theorem dX6_tellCrowd_39 : decode cX6_tellCrowd 39 = .ok (.iconst 1, 1) := by decide +kernel
theorem dX6_tellCrowd_40 : decode cX6_tellCrowd 40 = .ok (.bipush 9, 2) := by decide +kernel
theorem dX6_tellCrowd_42 : decode cX6_tellCrowd 42 = .ok (.invokevirtual 75, 3) := by decide +kernel
theorem dX6_tellCrowd_45 : decode cX6_tellCrowd 45 = .ok (.ifCond .ne 5, 3) := by decide +kernel
theorem dX6_tellCrowd_48 : decode cX6_tellCrowd 48 = .ok (.iconst 0, 1) := by decide +kernel
theorem dX6_tellCrowd_49 : decode cX6_tellCrowd 49 = .ok (.ireturn, 1) := by decide +kernel
theorem dX6_tellCrowd_50 : decode cX6_tellCrowd 50 = .ok (.aload_n 0, 1) := by decide +kernel
theorem dX6_tellCrowd_51 : decode cX6_tellCrowd 51 = .ok (.getfield 9, 3) := by decide +kernel
theorem dX6_tellCrowd_54 : decode cX6_tellCrowd 54 = .ok (.getfield 78, 3) := by decide +kernel
theorem dX6_tellCrowd_57 : decode cX6_tellCrowd 57 = .ok (.istore_n 2, 1) := by decide +kernel
theorem dX6_tellCrowd_58 : decode cX6_tellCrowd 58 = .ok (.aload_n 0, 1) := by decide +kernel
theorem dX6_tellCrowd_59 : decode cX6_tellCrowd 59 = .ok (.iconst 0, 1) := by decide +kernel
theorem dX6_tellCrowd_60 : decode cX6_tellCrowd 60 = .ok (.bipush 9, 2) := by decide +kernel
theorem dX6_tellCrowd_62 : decode cX6_tellCrowd 62 = .ok (.invokevirtual 75, 3) := by decide +kernel
theorem dX6_tellCrowd_65 : decode cX6_tellCrowd 65 = .ok (.ifCond .ne 5, 3) := by decide +kernel
theorem dX6_tellCrowd_68 : decode cX6_tellCrowd 68 = .ok (.iconst 0, 1) := by decide +kernel
theorem dX6_tellCrowd_69 : decode cX6_tellCrowd 69 = .ok (.ireturn, 1) := by decide +kernel
theorem dX6_tellCrowd_70 : decode cX6_tellCrowd 70 = .ok (.aload_n 0, 1) := by decide +kernel
theorem dX6_tellCrowd_71 : decode cX6_tellCrowd 71 = .ok (.getfield 9, 3) := by decide +kernel
theorem dX6_tellCrowd_74 : decode cX6_tellCrowd 74 = .ok (.getfield 78, 3) := by decide +kernel
theorem dX6_tellCrowd_77 : decode cX6_tellCrowd 77 = .ok (.istore_n 3, 1) := by decide +kernel
theorem dX6_tellCrowd_78 : decode cX6_tellCrowd 78 = .ok (.aload_n 0, 1) := by decide +kernel
theorem dX6_tellCrowd_79 : decode cX6_tellCrowd 79 = .ok (.invokevirtual 81, 3) := by decide +kernel
theorem dX6_tellCrowd_82 : decode cX6_tellCrowd 82 = .ok (.ifCond .eq 20, 3) := by decide +kernel
theorem dX6_tellCrowd_85 : decode cX6_tellCrowd 85 = .ok (.aload_n 0, 1) := by decide +kernel
theorem dX6_tellCrowd_86 : decode cX6_tellCrowd 86 = .ok (.getfield 15, 3) := by decide +kernel
theorem dX6_tellCrowd_89 : decode cX6_tellCrowd 89 = .ok (.iload_n 1, 1) := by decide +kernel
theorem dX6_tellCrowd_90 : decode cX6_tellCrowd 90 = .ok (.iload_n 2, 1) := by decide +kernel
theorem dX6_tellCrowd_91 : decode cX6_tellCrowd 91 = .ok (.iload_n 3, 1) := by decide +kernel
theorem dX6_tellCrowd_92 : decode cX6_tellCrowd 92 = .ok (.invokevirtual 91, 3) := by decide +kernel
theorem dX6_tellCrowd_95 : decode cX6_tellCrowd 95 = .ok (.ifCond .eq 7, 3) := by decide +kernel
theorem dX6_tellCrowd_98 : decode cX6_tellCrowd 98 = .ok (.iconst 1, 1) := by decide +kernel
theorem dX6_tellCrowd_99 : decode cX6_tellCrowd 99 = .ok (.goto 4, 3) := by decide +kernel
theorem dX6_tellCrowd_102 : decode cX6_tellCrowd 102 = .ok (.iconst 0, 1) := by decide +kernel
theorem dX6_tellCrowd_103 : decode cX6_tellCrowd 103 = .ok (.ireturn, 1) := by decide +kernel
set_option maxRecDepth 20000 in
theorem ggX6_takeNumber_X5_advance : GoodIn wsX6_takeNumber wsX5_advance := goodIn_r _ [7, 8, 9, 10, 11, 12, 13, 6, 14, 15, 16, 17, 18, 19, 20, 21, 22, 23, 24, 25, 26, 40, 41, 42, 43, 44] (by decide +kernel) (by decide +kernel)
set_option maxRecDepth 20000 in
theorem gX6_takeNumber_X5_advance : GoodIn wsX6_takeNumber (wsV RX6 33 RX5 yX5_advance wsX5_advance) := goodIn_app (goodIn_of _ (by decide +kernel)) ggX6_takeNumber_X5_advance
set_option maxRecDepth 20000 in
theorem ggX6_takeNumber_X6_expect : GoodIn wsX6_takeNumber wsX6_expect := goodIn_r _ [31, 32, 33, 34, 30, 35, 36, 37, 38, 39] (by decide +kernel) (by decide +kernel)
set_option maxRecDepth 20000 in
theorem gX6_takeNumber_X6_expect : GoodIn wsX6_takeNumber (wsV RX6 41 RX6 yX6_expect wsX6_expect) := goodIn_app (goodIn_of _ (by decide +kernel)) ggX6_takeNumber_X6_expect
set_option maxRecDepth 20000 in
theorem ggX6_takeNumber_X6_fail : GoodIn wsX6_takeNumber wsX6_fail := goodIn_r _ [35, 36, 37, 38, 39] (by decide +kernel) (by decide +kernel)
set_option maxRecDepth 20000 in
theorem gX6_takeNumber_X6_fail : GoodIn wsX6_takeNumber (wsV RX6 48 RX6 yX6_fail wsX6_fail) := goodIn_app (goodIn_of _ (by decide +kernel)) ggX6_takeNumber_X6_fail
theorem dX6_takeNumber_0 : decode cX6_takeNumber 0 = .ok (.aload_n 0, 1) := by decide +kernel
theorem dX6_takeNumber_1 : decode cX6_takeNumber 1 = .ok (.aload_n 0, 1) := by decide +kernel
theorem dX6_takeNumber_2 : decode cX6_takeNumber 2 = .ok (.getfield 9, 3) := by decide +kernel
theorem dX6_takeNumber_5 : decode cX6_takeNumber 5 = .ok (.invokevirtual 33, 3) := by decide +kernel
theorem dX6_takeNumber_8 : decode cX6_takeNumber 8 = .ok (.iconst 2, 1) := by decide +kernel
theorem dX6_takeNumber_9 : decode cX6_takeNumber 9 = .ok (.invokevirtual 41, 3) := by decide +kernel
theorem dX6_takeNumber_12 : decode cX6_takeNumber 12 = .ok (.ifCond .ne 5, 3) := by decide +kernel
theorem dX6_takeNumber_15 : decode cX6_takeNumber 15 = .ok (.iconst 0, 1) := by decide +kernel
theorem dX6_takeNumber_16 : decode cX6_takeNumber 16 = .ok (.ireturn, 1) := by decide +kernel
theorem dX6_takeNumber_17 : decode cX6_takeNumber 17 = .ok (.aload_n 0, 1) := by decide +kernel
theorem dX6_takeNumber_18 : decode cX6_takeNumber 18 = .ok (.getfield 9, 3) := by decide +kernel
theorem dX6_takeNumber_21 : decode cX6_takeNumber 21 = .ok (.getfield 78, 3) := by decide +kernel
theorem dX6_takeNumber_24 : decode cX6_takeNumber 24 = .ok (.iload_n 1, 1) := by decide +kernel
theorem dX6_takeNumber_25 : decode cX6_takeNumber 25 = .ok (.if_icmp .lt 14, 3) := by decide +kernel
theorem dX6_takeNumber_28 : decode cX6_takeNumber 28 = .ok (.aload_n 0, 1) := by decide +kernel
theorem dX6_takeNumber_29 : decode cX6_takeNumber 29 = .ok (.getfield 9, 3) := by decide +kernel
theorem dX6_takeNumber_32 : decode cX6_takeNumber 32 = .ok (.getfield 78, 3) := by decide +kernel
theorem dX6_takeNumber_35 : decode cX6_takeNumber 35 = .ok (.iload_n 2, 1) := by decide +kernel
theorem dX6_takeNumber_36 : decode cX6_takeNumber 36 = .ok (.if_icmp .le 11, 3) := by decide +kernel
theorem dX6_takeNumber_39 : decode cX6_takeNumber 39 = .ok (.aload_n 0, 1) := by decide +kernel
theorem dX6_takeNumber_40 : decode cX6_takeNumber 40 = .ok (.iconst 3, 1) := by decide +kernel
theorem dX6_takeNumber_41 : decode cX6_takeNumber 41 = .ok (.invokevirtual 48, 3) := by decide +kernel
theorem dX6_takeNumber_44 : decode cX6_takeNumber 44 = .ok (.ifCond .eq 7, 3) := by decide +kernel
theorem dX6_takeNumber_47 : decode cX6_takeNumber 47 = .ok (.iconst 1, 1) := by decide +kernel
theorem dX6_takeNumber_48 : decode cX6_takeNumber 48 = .ok (.goto 4, 3) := by decide +kernel
theorem dX6_takeNumber_51 : decode cX6_takeNumber 51 = .ok (.iconst 0, 1) := by decide +kernel
theorem dX6_takeNumber_52 : decode cX6_takeNumber 52 = .ok (.ireturn, 1) := by decide +kernel
set_option maxRecDepth 20000 in
theorem ggX6_takeStop_X5_advance : GoodIn wsX6_takeStop wsX5_advance := goodIn_r _ [6, 7, 8, 9, 10, 11, 12, 5, 13, 14, 15, 16, 17, 18, 19, 20, 21, 22, 23, 24, 25, 39, 40, 41, 42, 43] (by decide +kernel) (by decide +kernel)
set_option maxRecDepth 20000 in
theorem gX6_takeStop_X5_advance : GoodIn wsX6_takeStop (wsV RX6 33 RX5 yX5_advance wsX5_advance) := goodIn_app (goodIn_of _ (by decide +kernel)) ggX6_takeStop_X5_advance
set_option maxRecDepth 20000 in
theorem ggX6_takeStop_X6_expect : GoodIn wsX6_takeStop wsX6_expect := goodIn_r _ [30, 31, 32, 33, 29, 34, 35, 36, 37, 38] (by decide +kernel) (by decide +kernel)
set_option maxRecDepth 20000 in
theorem gX6_takeStop_X6_expect : GoodIn wsX6_takeStop (wsV RX6 41 RX6 yX6_expect wsX6_expect) := goodIn_app (goodIn_of _ (by decide +kernel)) ggX6_takeStop_X6_expect
theorem dX6_takeStop_0 : decode cX6_takeStop 0 = .ok (.aload_n 0, 1) := by decide +kernel
theorem dX6_takeStop_1 : decode cX6_takeStop 1 = .ok (.aload_n 0, 1) := by decide +kernel
theorem dX6_takeStop_2 : decode cX6_takeStop 2 = .ok (.getfield 9, 3) := by decide +kernel
theorem dX6_takeStop_5 : decode cX6_takeStop 5 = .ok (.invokevirtual 33, 3) := by decide +kernel
theorem dX6_takeStop_8 : decode cX6_takeStop 8 = .ok (.iconst 3, 1) := by decide +kernel
theorem dX6_takeStop_9 : decode cX6_takeStop 9 = .ok (.invokevirtual 41, 3) := by decide +kernel
theorem dX6_takeStop_12 : decode cX6_takeStop 12 = .ok (.ireturn, 1) := by decide +kernel
set_option maxRecDepth 20000 in
theorem ggX6_expect_X6_fail : GoodIn wsX6_expect wsX6_fail := goodIn_r _ [5, 6, 7, 8, 9] (by decide +kernel) (by decide +kernel)
set_option maxRecDepth 20000 in
theorem gX6_expect_X6_fail : GoodIn wsX6_expect (wsV RX6 48 RX6 yX6_fail wsX6_fail) := goodIn_app (goodIn_of _ (by decide +kernel)) ggX6_expect_X6_fail
theorem dX6_expect_0 : decode cX6_expect 0 = .ok (.iload_n 1, 1) := by decide +kernel
theorem dX6_expect_1 : decode cX6_expect 1 = .ok (.iconst 4, 1) := by decide +kernel
theorem dX6_expect_2 : decode cX6_expect 2 = .ok (.if_icmp .ne 9, 3) := by decide +kernel
theorem dX6_expect_5 : decode cX6_expect 5 = .ok (.aload_n 0, 1) := by decide +kernel
theorem dX6_expect_6 : decode cX6_expect 6 = .ok (.iconst 1, 1) := by decide +kernel
theorem dX6_expect_7 : decode cX6_expect 7 = .ok (.invokevirtual 48, 3) := by decide +kernel
theorem dX6_expect_10 : decode cX6_expect 10 = .ok (.ireturn, 1) := by decide +kernel
theorem dX6_expect_11 : decode cX6_expect 11 = .ok (.iload_n 1, 1) := by decide +kernel
theorem dX6_expect_12 : decode cX6_expect 12 = .ok (.iload_n 2, 1) := by decide +kernel
theorem dX6_expect_13 : decode cX6_expect 13 = .ok (.if_icmp .eq 11, 3) := by decide +kernel
theorem dX6_expect_16 : decode cX6_expect 16 = .ok (.aload_n 0, 1) := by decide +kernel
theorem dX6_expect_17 : decode cX6_expect 17 = .ok (.iconst 2, 1) := by decide +kernel
theorem dX6_expect_18 : decode cX6_expect 18 = .ok (.invokevirtual 48, 3) := by decide +kernel
theorem dX6_expect_21 : decode cX6_expect 21 = .ok (.ifCond .eq 7, 3) := by decide +kernel
theorem dX6_expect_24 : decode cX6_expect 24 = .ok (.iconst 1, 1) := by decide +kernel
theorem dX6_expect_25 : decode cX6_expect 25 = .ok (.goto 4, 3) := by decide +kernel
theorem dX6_expect_28 : decode cX6_expect 28 = .ok (.iconst 0, 1) := by decide +kernel
theorem dX6_expect_29 : decode cX6_expect 29 = .ok (.ireturn, 1) := by decide +kernel
theorem dX6_fail_0 : decode cX6_fail 0 = .ok (.aload_n 0, 1) := by decide +kernel
theorem dX6_fail_1 : decode cX6_fail 1 = .ok (.iload_n 1, 1) := by decide +kernel
theorem dX6_fail_2 : decode cX6_fail 2 = .ok (.putfield 24, 3) := by decide +kernel
theorem dX6_fail_5 : decode cX6_fail 5 = .ok (.iconst 0, 1) := by decide +kernel
theorem dX6_fail_6 : decode cX6_fail 6 = .ok (.ireturn, 1) := by decide +kernel
theorem dJ6_bitCount_0f7a4_0 : decode cJ6_bitCount_0f7a4 0 = .ok (.iload_n 0, 1) := by decide +kernel
theorem dJ6_bitCount_0f7a4_1 : decode cJ6_bitCount_0f7a4 1 = .ok (.iload_n 0, 1) := by decide +kernel
theorem dJ6_bitCount_0f7a4_2 : decode cJ6_bitCount_0f7a4 2 = .ok (.iconst 1, 1) := by decide +kernel
theorem dJ6_bitCount_0f7a4_3 : decode cJ6_bitCount_0f7a4 3 = .ok (.iushr, 1) := by decide +kernel
theorem dJ6_bitCount_0f7a4_4 : decode cJ6_bitCount_0f7a4 4 = .ok (.ldc_w 265, 3) := by decide +kernel
theorem dJ6_bitCount_0f7a4_7 : decode cJ6_bitCount_0f7a4 7 = .ok (.iand, 1) := by decide +kernel
theorem dJ6_bitCount_0f7a4_8 : decode cJ6_bitCount_0f7a4 8 = .ok (.isub, 1) := by decide +kernel
theorem dJ6_bitCount_0f7a4_9 : decode cJ6_bitCount_0f7a4 9 = .ok (.istore_n 0, 1) := by decide +kernel
theorem dJ6_bitCount_0f7a4_10 : decode cJ6_bitCount_0f7a4 10 = .ok (.iload_n 0, 1) := by decide +kernel
theorem dJ6_bitCount_0f7a4_11 : decode cJ6_bitCount_0f7a4 11 = .ok (.ldc_w 266, 3) := by decide +kernel
theorem dJ6_bitCount_0f7a4_14 : decode cJ6_bitCount_0f7a4 14 = .ok (.iand, 1) := by decide +kernel
theorem dJ6_bitCount_0f7a4_15 : decode cJ6_bitCount_0f7a4 15 = .ok (.iload_n 0, 1) := by decide +kernel
theorem dJ6_bitCount_0f7a4_16 : decode cJ6_bitCount_0f7a4 16 = .ok (.iconst 2, 1) := by decide +kernel
theorem dJ6_bitCount_0f7a4_17 : decode cJ6_bitCount_0f7a4 17 = .ok (.iushr, 1) := by decide +kernel
theorem dJ6_bitCount_0f7a4_18 : decode cJ6_bitCount_0f7a4 18 = .ok (.ldc_w 266, 3) := by decide +kernel
theorem dJ6_bitCount_0f7a4_21 : decode cJ6_bitCount_0f7a4 21 = .ok (.iand, 1) := by decide +kernel
theorem dJ6_bitCount_0f7a4_22 : decode cJ6_bitCount_0f7a4 22 = .ok (.iadd, 1) := by decide +kernel
theorem dJ6_bitCount_0f7a4_23 : decode cJ6_bitCount_0f7a4 23 = .ok (.istore_n 0, 1) := by decide +kernel
theorem dJ6_bitCount_0f7a4_24 : decode cJ6_bitCount_0f7a4 24 = .ok (.iload_n 0, 1) := by decide +kernel
theorem dJ6_bitCount_0f7a4_25 : decode cJ6_bitCount_0f7a4 25 = .ok (.iload_n 0, 1) := by decide +kernel
theorem dJ6_bitCount_0f7a4_26 : decode cJ6_bitCount_0f7a4 26 = .ok (.iconst 4, 1) := by decide +kernel
theorem dJ6_bitCount_0f7a4_27 : decode cJ6_bitCount_0f7a4 27 = .ok (.iushr, 1) := by decide +kernel
theorem dJ6_bitCount_0f7a4_28 : decode cJ6_bitCount_0f7a4 28 = .ok (.iadd, 1) := by decide +kernel
theorem dJ6_bitCount_0f7a4_29 : decode cJ6_bitCount_0f7a4 29 = .ok (.ldc_w 267, 3) := by decide +kernel
theorem dJ6_bitCount_0f7a4_32 : decode cJ6_bitCount_0f7a4 32 = .ok (.iand, 1) := by decide +kernel
theorem dJ6_bitCount_0f7a4_33 : decode cJ6_bitCount_0f7a4 33 = .ok (.istore_n 0, 1) := by decide +kernel
theorem dJ6_bitCount_0f7a4_34 : decode cJ6_bitCount_0f7a4 34 = .ok (.iload_n 0, 1) := by decide +kernel
theorem dJ6_bitCount_0f7a4_35 : decode cJ6_bitCount_0f7a4 35 = .ok (.iload_n 0, 1) := by decide +kernel
theorem dJ6_bitCount_0f7a4_36 : decode cJ6_bitCount_0f7a4 36 = .ok (.bipush 8, 2) := by decide +kernel
theorem dJ6_bitCount_0f7a4_38 : decode cJ6_bitCount_0f7a4 38 = .ok (.iushr, 1) := by decide +kernel
theorem dJ6_bitCount_0f7a4_39 : decode cJ6_bitCount_0f7a4 39 = .ok (.iadd, 1) := by decide +kernel
theorem dJ6_bitCount_0f7a4_40 : decode cJ6_bitCount_0f7a4 40 = .ok (.istore_n 0, 1) := by decide +kernel
theorem dJ6_bitCount_0f7a4_41 : decode cJ6_bitCount_0f7a4 41 = .ok (.iload_n 0, 1) := by decide +kernel
theorem dJ6_bitCount_0f7a4_42 : decode cJ6_bitCount_0f7a4 42 = .ok (.iload_n 0, 1) := by decide +kernel
theorem dJ6_bitCount_0f7a4_43 : decode cJ6_bitCount_0f7a4 43 = .ok (.bipush 16, 2) := by decide +kernel
theorem dJ6_bitCount_0f7a4_45 : decode cJ6_bitCount_0f7a4 45 = .ok (.iushr, 1) := by decide +kernel
theorem dJ6_bitCount_0f7a4_46 : decode cJ6_bitCount_0f7a4 46 = .ok (.iadd, 1) := by decide +kernel
theorem dJ6_bitCount_0f7a4_47 : decode cJ6_bitCount_0f7a4 47 = .ok (.istore_n 0, 1) := by decide +kernel
theorem dJ6_bitCount_0f7a4_48 : decode cJ6_bitCount_0f7a4 48 = .ok (.iload_n 0, 1) := by decide +kernel
theorem dJ6_bitCount_0f7a4_49 : decode cJ6_bitCount_0f7a4 49 = .ok (.bipush 63, 2) := by decide +kernel
theorem dJ6_bitCount_0f7a4_51 : decode cJ6_bitCount_0f7a4 51 = .ok (.iand, 1) := by decide +kernel
theorem dJ6_bitCount_0f7a4_52 : decode cJ6_bitCount_0f7a4 52 = .ok (.ireturn, 1) := by decide +kernel
theorem dJ9_max_7cf53_0 : decode cJ9_max_7cf53 0 = .ok (.iload_n 0, 1) := by decide +kernel
theorem dJ9_max_7cf53_1 : decode cJ9_max_7cf53 1 = .ok (.iload_n 1, 1) := by decide +kernel
theorem dJ9_max_7cf53_2 : decode cJ9_max_7cf53 2 = .ok (.if_icmp .lt 7, 3) := by decide +kernel
theorem dJ9_max_7cf53_5 : decode cJ9_max_7cf53 5 = .ok (.iload_n 0, 1) := by decide +kernel
theorem dJ9_max_7cf53_6 : decode cJ9_max_7cf53 6 = .ok (.goto 4, 3) := by decide +kernel
theorem dJ9_max_7cf53_9 : decode cJ9_max_7cf53 9 = .ok (.iload_n 1, 1) := by decide +kernel
theorem dJ9_max_7cf53_10 : decode cJ9_max_7cf53 10 = .ok (.ireturn, 1) := by decide +kernel
theorem dJ9_max_f86c9_0 : decode cJ9_max_f86c9 0 = .ok (.lload_n 0, 1) := by decide +kernel
theorem dJ9_max_f86c9_1 : decode cJ9_max_f86c9 1 = .ok (.lload_n 2, 1) := by decide +kernel
theorem dJ9_max_f86c9_2 : decode cJ9_max_f86c9 2 = .ok (.lcmp, 1) := by decide +kernel
theorem dJ9_max_f86c9_3 : decode cJ9_max_f86c9 3 = .ok (.ifCond .lt 7, 3) := by decide +kernel
theorem dJ9_max_f86c9_6 : decode cJ9_max_f86c9 6 = .ok (.lload_n 0, 1) := by decide +kernel
theorem dJ9_max_f86c9_7 : decode cJ9_max_f86c9 7 = .ok (.goto 4, 3) := by decide +kernel
theorem dJ9_max_f86c9_10 : decode cJ9_max_f86c9 10 = .ok (.lload_n 2, 1) := by decide +kernel
theorem dJ9_max_f86c9_11 : decode cJ9_max_f86c9 11 = .ok (.lreturn, 1) := by decide +kernel
theorem dJ9_min_7cf53_0 : decode cJ9_min_7cf53 0 = .ok (.iload_n 0, 1) := by decide +kernel
theorem dJ9_min_7cf53_1 : decode cJ9_min_7cf53 1 = .ok (.iload_n 1, 1) := by decide +kernel
theorem dJ9_min_7cf53_2 : decode cJ9_min_7cf53 2 = .ok (.if_icmp .gt 7, 3) := by decide +kernel
theorem dJ9_min_7cf53_5 : decode cJ9_min_7cf53 5 = .ok (.iload_n 0, 1) := by decide +kernel
theorem dJ9_min_7cf53_6 : decode cJ9_min_7cf53 6 = .ok (.goto 4, 3) := by decide +kernel
theorem dJ9_min_7cf53_9 : decode cJ9_min_7cf53 9 = .ok (.iload_n 1, 1) := by decide +kernel
theorem dJ9_min_7cf53_10 : decode cJ9_min_7cf53 10 = .ok (.ireturn, 1) := by decide +kernel
set_option maxRecDepth 20000 in
theorem ggJ0_length_8abf5_J0_coder_7d493 : GoodIn wsJ0_length_8abf5 wsJ0_coder_7d493 := goodIn_r _ [6, 7, 8] (by decide +kernel) (by decide +kernel)
set_option maxRecDepth 20000 in
theorem gJ0_length_8abf5_J0_coder_7d493 : GoodIn wsJ0_length_8abf5 (wsV RJ0 335 RJ0 yJ0_coder_7d493 wsJ0_coder_7d493) := goodIn_app (goodIn_of _ (by decide +kernel)) ggJ0_length_8abf5_J0_coder_7d493
theorem dJ0_length_8abf5_0 : decode cJ0_length_8abf5 0 = .ok (.aload_n 0, 1) := by decide +kernel
theorem dJ0_length_8abf5_1 : decode cJ0_length_8abf5 1 = .ok (.getfield 9, 3) := by decide +kernel
theorem dJ0_length_8abf5_4 : decode cJ0_length_8abf5 4 = .ok (.arraylength, 1) := by decide +kernel
theorem dJ0_length_8abf5_5 : decode cJ0_length_8abf5 5 = .ok (.aload_n 0, 1) := by decide +kernel
theorem dJ0_length_8abf5_6 : decode cJ0_length_8abf5 6 = .ok (.invokevirtual 335, 3) := by decide +kernel
theorem dJ0_length_8abf5_9 : decode cJ0_length_8abf5 9 = .ok (.ishr, 1) := by decide +kernel
theorem dJ0_length_8abf5_10 : decode cJ0_length_8abf5 10 = .ok (.ireturn, 1) := by decide +kernel
set_option maxRecDepth 20000 in
theorem ggJ0_charAt_5068e_J0_isLatin1_aae02 : GoodIn wsJ0_charAt_5068e wsJ0_isLatin1_aae02 := goodIn_r _ [6, 7, 8] (by decide +kernel) (by decide +kernel)
set_option maxRecDepth 20000 in
theorem gJ0_charAt_5068e_J0_isLatin1_aae02 : GoodIn wsJ0_charAt_5068e (wsV RJ0 492 RJ0 yJ0_isLatin1_aae02 wsJ0_isLatin1_aae02) := goodIn_app (goodIn_of _ (by decide +kernel)) ggJ0_charAt_5068e_J0_isLatin1_aae02
set_option maxRecDepth 20000 in
theorem ggJ0_charAt_5068e_J1_charAt_3b067 : GoodIn wsJ0_charAt_5068e wsJ1_charAt_3b067 := goodIn_r _ [12, 13, 14, 5, 15, 16, 17, 18, 19, 20] (by decide +kernel) (by decide +kernel)
set_option maxRecDepth 20000 in
theorem gJ0_charAt_5068e_J1_charAt_3b067 : GoodIn wsJ0_charAt_5068e (va_wsS RJ0 495 yJ1_charAt_3b067 wsJ1_charAt_3b067) := goodIn_app (goodIn_of _ (by decide +kernel)) ggJ0_charAt_5068e_J1_charAt_3b067
set_option maxRecDepth 20000 in
theorem ggJ0_charAt_5068e_J2_charAt_3b067 : GoodIn wsJ0_charAt_5068e wsJ2_charAt_3b067 := goodIn_r _ [24, 25, 26, 23, 27, 28, 29, 30, 31, 14, 5, 15, 16, 17, 18, 19, 20, 32, 33, 34, 35, 36, 37] (by decide +kernel) (by decide +kernel)
set_option maxRecDepth 20000 in
theorem gJ0_charAt_5068e_J2_charAt_3b067 : GoodIn wsJ0_charAt_5068e (va_wsS RJ0 498 yJ2_charAt_3b067 wsJ2_charAt_3b067) := goodIn_app (goodIn_of _ (by decide +kernel)) ggJ0_charAt_5068e_J2_charAt_3b067
theorem dJ0_charAt_5068e_0 : decode cJ0_charAt_5068e 0 = .ok (.aload_n 0, 1) := by decide +kernel
theorem dJ0_charAt_5068e_1 : decode cJ0_charAt_5068e 1 = .ok (.invokevirtual 492, 3) := by decide +kernel
theorem dJ0_charAt_5068e_4 : decode cJ0_charAt_5068e 4 = .ok (.ifCond .eq 12, 3) := by decide +kernel
theorem dJ0_charAt_5068e_7 : decode cJ0_charAt_5068e 7 = .ok (.aload_n 0, 1) := by decide +kernel
theorem dJ0_charAt_5068e_8 : decode cJ0_charAt_5068e 8 = .ok (.getfield 9, 3) := by decide +kernel
theorem dJ0_charAt_5068e_11 : decode cJ0_charAt_5068e 11 = .ok (.iload_n 1, 1) := by decide +kernel
theorem dJ0_charAt_5068e_12 : decode cJ0_charAt_5068e 12 = .ok (.invokestatic 495, 3) := by decide +kernel
theorem dJ0_charAt_5068e_15 : decode cJ0_charAt_5068e 15 = .ok (.ireturn, 1) := by decide +kernel
theorem dJ0_charAt_5068e_16 : decode cJ0_charAt_5068e 16 = .ok (.aload_n 0, 1) := by decide +kernel
theorem dJ0_charAt_5068e_17 : decode cJ0_charAt_5068e 17 = .ok (.getfield 9, 3) := by decide +kernel
theorem dJ0_charAt_5068e_20 : decode cJ0_charAt_5068e 20 = .ok (.iload_n 1, 1) := by decide +kernel
theorem dJ0_charAt_5068e_21 : decode cJ0_charAt_5068e 21 = .ok (.invokestatic 498, 3) := by decide +kernel
theorem dJ0_charAt_5068e_24 : decode cJ0_charAt_5068e 24 = .ok (.ireturn, 1) := by decide +kernel
theorem dJ0_coder_7d493_0 : decode cJ0_coder_7d493 0 = .ok (.getstatic 38, 3) := by decide +kernel
theorem dJ0_coder_7d493_3 : decode cJ0_coder_7d493 3 = .ok (.ifCond .eq 10, 3) := by decide +kernel
theorem dJ0_coder_7d493_6 : decode cJ0_coder_7d493 6 = .ok (.aload_n 0, 1) := by decide +kernel
theorem dJ0_coder_7d493_7 : decode cJ0_coder_7d493 7 = .ok (.getfield 15, 3) := by decide +kernel
theorem dJ0_coder_7d493_10 : decode cJ0_coder_7d493 10 = .ok (.goto 4, 3) := by decide +kernel
theorem dJ0_coder_7d493_13 : decode cJ0_coder_7d493 13 = .ok (.iconst 1, 1) := by decide +kernel
theorem dJ0_coder_7d493_14 : decode cJ0_coder_7d493 14 = .ok (.ireturn, 1) := by decide +kernel
theorem dJ0_isLatin1_aae02_0 : decode cJ0_isLatin1_aae02 0 = .ok (.getstatic 38, 3) := by decide +kernel
theorem dJ0_isLatin1_aae02_3 : decode cJ0_isLatin1_aae02 3 = .ok (.ifCond .eq 14, 3) := by decide +kernel
theorem dJ0_isLatin1_aae02_6 : decode cJ0_isLatin1_aae02 6 = .ok (.aload_n 0, 1) := by decide +kernel
theorem dJ0_isLatin1_aae02_7 : decode cJ0_isLatin1_aae02 7 = .ok (.getfield 15, 3) := by decide +kernel
theorem dJ0_isLatin1_aae02_10 : decode cJ0_isLatin1_aae02 10 = .ok (.ifCond .ne 7, 3) := by decide +kernel
theorem dJ0_isLatin1_aae02_13 : decode cJ0_isLatin1_aae02 13 = .ok (.iconst 1, 1) := by decide +kernel
theorem dJ0_isLatin1_aae02_14 : decode cJ0_isLatin1_aae02 14 = .ok (.goto 4, 3) := by decide +kernel
theorem dJ0_isLatin1_aae02_17 : decode cJ0_isLatin1_aae02 17 = .ok (.iconst 0, 1) := by decide +kernel
theorem dJ0_isLatin1_aae02_18 : decode cJ0_isLatin1_aae02 18 = .ok (.ireturn, 1) := by decide +kernel
set_option maxRecDepth 20000 in
theorem ggJ0_checkIndex_df160_J3_checkIndex_8e157 : GoodIn wsJ0_checkIndex_df160 wsJ3_checkIndex_8e157 := goodIn_r _ [5] (by decide +kernel) (by decide +kernel)
set_option maxRecDepth 20000 in
theorem gJ0_checkIndex_df160_J3_checkIndex_8e157 : GoodIn wsJ0_checkIndex_df160 (va_wsS RJ0 1059 yJ3_checkIndex_8e157 wsJ3_checkIndex_8e157) := goodIn_app (goodIn_of _ (by decide +kernel)) ggJ0_checkIndex_df160_J3_checkIndex_8e157
theorem dJ0_checkIndex_df160_0 : decode cJ0_checkIndex_df160 0 = .ok (.iload_n 0, 1) := by decide +kernel
theorem dJ0_checkIndex_df160_1 : decode cJ0_checkIndex_df160 1 = .ok (.iload_n 1, 1) := by decide +kernel
theorem dJ0_checkIndex_df160_2 : decode cJ0_checkIndex_df160 2 = .ok (.getstatic 1053, 3) := by decide +kernel
theorem dJ0_checkIndex_df160_5 : decode cJ0_checkIndex_df160 5 = .ok (.invokestatic 1059, 3) := by decide +kernel
theorem dJ0_checkIndex_df160_8 : decode cJ0_checkIndex_df160 8 = .ok (.pop, 1) := by decide +kernel
theorem dJ0_checkIndex_df160_9 : decode cJ0_checkIndex_df160 9 = .ok (.return_, 1) := by decide +kernel
set_option maxRecDepth 20000 in
theorem ggJ1_charAt_3b067_J0_checkIndex_df160 : GoodIn wsJ1_charAt_3b067 wsJ0_checkIndex_df160 := goodIn_r _ [4, 5, 6, 7, 8, 9] (by decide +kernel) (by decide +kernel)
set_option maxRecDepth 20000 in
theorem gJ1_charAt_3b067_J0_checkIndex_df160 : GoodIn wsJ1_charAt_3b067 (va_wsS RJ1 9 yJ0_checkIndex_df160 wsJ0_checkIndex_df160) := goodIn_app (goodIn_of _ (by decide +kernel)) ggJ1_charAt_3b067_J0_checkIndex_df160
theorem dJ1_charAt_3b067_0 : decode cJ1_charAt_3b067 0 = .ok (.iload_n 1, 1) := by decide +kernel
theorem dJ1_charAt_3b067_1 : decode cJ1_charAt_3b067 1 = .ok (.aload_n 0, 1) := by decide +kernel
theorem dJ1_charAt_3b067_2 : decode cJ1_charAt_3b067 2 = .ok (.arraylength, 1) := by decide +kernel
theorem dJ1_charAt_3b067_3 : decode cJ1_charAt_3b067 3 = .ok (.invokestatic 9, 3) := by decide +kernel
theorem dJ1_charAt_3b067_6 : decode cJ1_charAt_3b067 6 = .ok (.aload_n 0, 1) := by decide +kernel
theorem dJ1_charAt_3b067_7 : decode cJ1_charAt_3b067 7 = .ok (.iload_n 1, 1) := by decide +kernel
theorem dJ1_charAt_3b067_8 : decode cJ1_charAt_3b067 8 = .ok (.baload, 1) := by decide +kernel
theorem dJ1_charAt_3b067_9 : decode cJ1_charAt_3b067 9 = .ok (.sipush 255, 3) := by decide +kernel
theorem dJ1_charAt_3b067_12 : decode cJ1_charAt_3b067 12 = .ok (.iand, 1) := by decide +kernel
theorem dJ1_charAt_3b067_13 : decode cJ1_charAt_3b067 13 = .ok (.i2c, 1) := by decide +kernel
theorem dJ1_charAt_3b067_14 : decode cJ1_charAt_3b067 14 = .ok (.ireturn, 1) := by decide +kernel
set_option maxRecDepth 20000 in
theorem ggJ2_getChar_3b067_J2_length_9d52b : GoodIn wsJ2_getChar_3b067 wsJ2_length_9d52b := goodIn_r _ [7] (by decide +kernel) (by decide +kernel)
set_option maxRecDepth 20000 in
theorem gJ2_getChar_3b067_J2_length_9d52b : GoodIn wsJ2_getChar_3b067 (va_wsS RJ2 48 yJ2_length_9d52b wsJ2_length_9d52b) := goodIn_app (goodIn_of _ (by decide +kernel)) ggJ2_getChar_3b067_J2_length_9d52b
theorem dJ2_getChar_3b067_0 : decode cJ2_getChar_3b067 0 = .ok (.getstatic 44, 3) := by decide +kernel
theorem dJ2_getChar_3b067_3 : decode cJ2_getChar_3b067 3 = .ok (.ifCond .ne 25, 3) := by decide +kernel
theorem dJ2_getChar_3b067_6 : decode cJ2_getChar_3b067 6 = .ok (.iload_n 1, 1) := by decide +kernel
theorem dJ2_getChar_3b067_7 : decode cJ2_getChar_3b067 7 = .ok (.ifCond .lt 11, 3) := by decide +kernel
theorem dJ2_getChar_3b067_10 : decode cJ2_getChar_3b067 10 = .ok (.iload_n 1, 1) := by decide +kernel
theorem dJ2_getChar_3b067_11 : decode cJ2_getChar_3b067 11 = .ok (.aload_n 0, 1) := by decide +kernel
theorem dJ2_getChar_3b067_12 : decode cJ2_getChar_3b067 12 = .ok (.invokestatic 48, 3) := by decide +kernel
theorem dJ2_getChar_3b067_15 : decode cJ2_getChar_3b067 15 = .ok (.if_icmp .lt 13, 3) := by decide +kernel
theorem dJ2_getChar_3b067_18 : decode cJ2_getChar_3b067 18 = .ok (.new 52, 3) := by decide +kernel
theorem dJ2_getChar_3b067_21 : decode cJ2_getChar_3b067 21 = .ok (.dup, 1) := by decide +kernel
theorem dJ2_getChar_3b067_22 : decode cJ2_getChar_3b067 22 = .ok (.ldc 54, 2) := by decide +kernel
theorem dJ2_getChar_3b067_24 : decode cJ2_getChar_3b067 24 = .ok (.invokespecial 56, 3) := by decide +kernel
theorem dJ2_getChar_3b067_27 : decode cJ2_getChar_3b067 27 = .ok (.athrow, 1) := by decide +kernel
theorem dJ2_getChar_3b067_28 : decode cJ2_getChar_3b067 28 = .ok (.iload_n 1, 1) := by decide +kernel
theorem dJ2_getChar_3b067_29 : decode cJ2_getChar_3b067 29 = .ok (.iconst 1, 1) := by decide +kernel
theorem dJ2_getChar_3b067_30 : decode cJ2_getChar_3b067 30 = .ok (.ishl, 1) := by decide +kernel
theorem dJ2_getChar_3b067_31 : decode cJ2_getChar_3b067 31 = .ok (.istore_n 1, 1) := by decide +kernel
theorem dJ2_getChar_3b067_32 : decode cJ2_getChar_3b067 32 = .ok (.aload_n 0, 1) := by decide +kernel
theorem dJ2_getChar_3b067_33 : decode cJ2_getChar_3b067 33 = .ok (.iload_n 1, 1) := by decide +kernel
theorem dJ2_getChar_3b067_34 : decode cJ2_getChar_3b067 34 = .ok (.iinc 1 1, 3) := by decide +kernel
theorem dJ2_getChar_3b067_37 : decode cJ2_getChar_3b067 37 = .ok (.baload, 1) := by decide +kernel
theorem dJ2_getChar_3b067_38 : decode cJ2_getChar_3b067 38 = .ok (.sipush 255, 3) := by decide +kernel
theorem dJ2_getChar_3b067_41 : decode cJ2_getChar_3b067 41 = .ok (.iand, 1) := by decide +kernel
theorem dJ2_getChar_3b067_42 : decode cJ2_getChar_3b067 42 = .ok (.getstatic 59, 3) := by decide +kernel
theorem dJ2_getChar_3b067_45 : decode cJ2_getChar_3b067 45 = .ok (.ishl, 1) := by decide +kernel
theorem dJ2_getChar_3b067_46 : decode cJ2_getChar_3b067 46 = .ok (.aload_n 0, 1) := by decide +kernel
theorem dJ2_getChar_3b067_47 : decode cJ2_getChar_3b067 47 = .ok (.iload_n 1, 1) := by decide +kernel
theorem dJ2_getChar_3b067_48 : decode cJ2_getChar_3b067 48 = .ok (.baload, 1) := by decide +kernel
theorem dJ2_getChar_3b067_49 : decode cJ2_getChar_3b067 49 = .ok (.sipush 255, 3) := by decide +kernel
theorem dJ2_getChar_3b067_52 : decode cJ2_getChar_3b067 52 = .ok (.iand, 1) := by decide +kernel
theorem dJ2_getChar_3b067_53 : decode cJ2_getChar_3b067 53 = .ok (.getstatic 63, 3) := by decide +kernel
theorem dJ2_getChar_3b067_56 : decode cJ2_getChar_3b067 56 = .ok (.ishl, 1) := by decide +kernel
theorem dJ2_getChar_3b067_57 : decode cJ2_getChar_3b067 57 = .ok (.ior, 1) := by decide +kernel
theorem dJ2_getChar_3b067_58 : decode cJ2_getChar_3b067 58 = .ok (.i2c, 1) := by decide +kernel
theorem dJ2_getChar_3b067_59 : decode cJ2_getChar_3b067 59 = .ok (.ireturn, 1) := by decide +kernel
theorem dJ2_length_9d52b_0 : decode cJ2_length_9d52b 0 = .ok (.aload_n 0, 1) := by decide +kernel
theorem dJ2_length_9d52b_1 : decode cJ2_length_9d52b 1 = .ok (.arraylength, 1) := by decide +kernel
theorem dJ2_length_9d52b_2 : decode cJ2_length_9d52b 2 = .ok (.iconst 1, 1) := by decide +kernel
theorem dJ2_length_9d52b_3 : decode cJ2_length_9d52b 3 = .ok (.ishr, 1) := by decide +kernel
theorem dJ2_length_9d52b_4 : decode cJ2_length_9d52b 4 = .ok (.ireturn, 1) := by decide +kernel
set_option maxRecDepth 20000 in
theorem ggJ2_charAt_3b067_J2_checkIndex_2214a : GoodIn wsJ2_charAt_3b067 wsJ2_checkIndex_2214a := goodIn_r _ [4, 5, 6, 3, 7, 8, 9, 10, 11, 12, 13, 14, 15, 16] (by decide +kernel) (by decide +kernel)
set_option maxRecDepth 20000 in
theorem gJ2_charAt_3b067_J2_checkIndex_2214a : GoodIn wsJ2_charAt_3b067 (va_wsS RJ2 67 yJ2_checkIndex_2214a wsJ2_checkIndex_2214a) := goodIn_app (goodIn_of _ (by decide +kernel)) ggJ2_charAt_3b067_J2_checkIndex_2214a
set_option maxRecDepth 20000 in
theorem ggJ2_charAt_3b067_J2_getChar_3b067 : GoodIn wsJ2_charAt_3b067 wsJ2_getChar_3b067 := goodIn_r _ [19, 20, 21, 22, 5, 6, 3, 7] (by decide +kernel) (by decide +kernel)
set_option maxRecDepth 20000 in
theorem gJ2_charAt_3b067_J2_getChar_3b067 : GoodIn wsJ2_charAt_3b067 (va_wsS RJ2 71 yJ2_getChar_3b067 wsJ2_getChar_3b067) := goodIn_app (goodIn_of _ (by decide +kernel)) ggJ2_charAt_3b067_J2_getChar_3b067
theorem dJ2_charAt_3b067_0 : decode cJ2_charAt_3b067 0 = .ok (.iload_n 1, 1) := by decide +kernel
theorem dJ2_charAt_3b067_1 : decode cJ2_charAt_3b067 1 = .ok (.aload_n 0, 1) := by decide +kernel
theorem dJ2_charAt_3b067_2 : decode cJ2_charAt_3b067 2 = .ok (.invokestatic 67, 3) := by decide +kernel
theorem dJ2_charAt_3b067_5 : decode cJ2_charAt_3b067 5 = .ok (.aload_n 0, 1) := by decide +kernel
theorem dJ2_charAt_3b067_6 : decode cJ2_charAt_3b067 6 = .ok (.iload_n 1, 1) := by decide +kernel
theorem dJ2_charAt_3b067_7 : decode cJ2_charAt_3b067 7 = .ok (.invokestatic 71, 3) := by decide +kernel
theorem dJ2_charAt_3b067_10 : decode cJ2_charAt_3b067 10 = .ok (.ireturn, 1) := by decide +kernel
set_option maxRecDepth 20000 in
theorem ggJ2_checkIndex_2214a_J2_length_9d52b : GoodIn wsJ2_checkIndex_2214a wsJ2_length_9d52b := goodIn_r _ [4] (by decide +kernel) (by decide +kernel)
set_option maxRecDepth 20000 in
theorem gJ2_checkIndex_2214a_J2_length_9d52b : GoodIn wsJ2_checkIndex_2214a (va_wsS RJ2 48 yJ2_length_9d52b wsJ2_length_9d52b) := goodIn_app (goodIn_of _ (by decide +kernel)) ggJ2_checkIndex_2214a_J2_length_9d52b
set_option maxRecDepth 20000 in
theorem ggJ2_checkIndex_2214a_J0_checkIndex_df160 : GoodIn wsJ2_checkIndex_2214a wsJ0_checkIndex_df160 := goodIn_r _ [8, 9, 10, 11, 12, 13] (by decide +kernel) (by decide +kernel)
set_option maxRecDepth 20000 in
theorem gJ2_checkIndex_2214a_J0_checkIndex_df160 : GoodIn wsJ2_checkIndex_2214a (va_wsS RJ2 414 yJ0_checkIndex_df160 wsJ0_checkIndex_df160) := goodIn_app (goodIn_of _ (by decide +kernel)) ggJ2_checkIndex_2214a_J0_checkIndex_df160
theorem dJ2_checkIndex_2214a_0 : decode cJ2_checkIndex_2214a 0 = .ok (.iload_n 0, 1) := by decide +kernel
theorem dJ2_checkIndex_2214a_1 : decode cJ2_checkIndex_2214a 1 = .ok (.aload_n 1, 1) := by decide +kernel
theorem dJ2_checkIndex_2214a_2 : decode cJ2_checkIndex_2214a 2 = .ok (.invokestatic 48, 3) := by decide +kernel
theorem dJ2_checkIndex_2214a_5 : decode cJ2_checkIndex_2214a 5 = .ok (.invokestatic 414, 3) := by decide +kernel
theorem dJ2_checkIndex_2214a_8 : decode cJ2_checkIndex_2214a 8 = .ok (.return_, 1) := by decide +kernel
theorem dJ7_fill_53178_0 : decode cJ7_fill_53178 0 = .ok (.iconst 0, 1) := by decide +kernel
theorem dJ7_fill_53178_1 : decode cJ7_fill_53178 1 = .ok (.istore_n 2, 1) := by decide +kernel
theorem dJ7_fill_53178_2 : decode cJ7_fill_53178 2 = .ok (.aload_n 0, 1) := by decide +kernel
theorem dJ7_fill_53178_3 : decode cJ7_fill_53178 3 = .ok (.arraylength, 1) := by decide +kernel
theorem dJ7_fill_53178_4 : decode cJ7_fill_53178 4 = .ok (.istore_n 3, 1) := by decide +kernel
theorem dJ7_fill_53178_5 : decode cJ7_fill_53178 5 = .ok (.iload_n 2, 1) := by decide +kernel
theorem dJ7_fill_53178_6 : decode cJ7_fill_53178 6 = .ok (.iload_n 3, 1) := by decide +kernel
theorem dJ7_fill_53178_7 : decode cJ7_fill_53178 7 = .ok (.if_icmp .ge 13, 3) := by decide +kernel
theorem dJ7_fill_53178_10 : decode cJ7_fill_53178 10 = .ok (.aload_n 0, 1) := by decide +kernel
theorem dJ7_fill_53178_11 : decode cJ7_fill_53178 11 = .ok (.iload_n 2, 1) := by decide +kernel
theorem dJ7_fill_53178_12 : decode cJ7_fill_53178 12 = .ok (.iload_n 1, 1) := by decide +kernel
theorem dJ7_fill_53178_13 : decode cJ7_fill_53178 13 = .ok (.iastore, 1) := by decide +kernel
theorem dJ7_fill_53178_14 : decode cJ7_fill_53178 14 = .ok (.iinc 2 1, 3) := by decide +kernel
theorem dJ7_fill_53178_17 : decode cJ7_fill_53178 17 = .ok (.goto (-12), 3) := by decide +kernel
theorem dJ7_fill_53178_20 : decode cJ7_fill_53178 20 = .ok (.return_, 1) := by decide +kernel
theorem dJ3_checkIndex_8e157_0 : decode cJ3_checkIndex_8e157 0 = .ok (.iload_n 0, 1) := by decide +kernel
theorem dJ3_checkIndex_8e157_1 : decode cJ3_checkIndex_8e157 1 = .ok (.ifCond .lt 8, 3) := by decide +kernel
theorem dJ3_checkIndex_8e157_4 : decode cJ3_checkIndex_8e157 4 = .ok (.iload_n 0, 1) := by decide +kernel
theorem dJ3_checkIndex_8e157_5 : decode cJ3_checkIndex_8e157 5 = .ok (.iload_n 1, 1) := by decide +kernel
theorem dJ3_checkIndex_8e157_6 : decode cJ3_checkIndex_8e157 6 = .ok (.if_icmp .lt 10, 3) := by decide +kernel
theorem dJ3_checkIndex_8e157_9 : decode cJ3_checkIndex_8e157 9 = .ok (.aload_n 2, 1) := by decide +kernel
theorem dJ3_checkIndex_8e157_10 : decode cJ3_checkIndex_8e157 10 = .ok (.iload_n 0, 1) := by decide +kernel
theorem dJ3_checkIndex_8e157_11 : decode cJ3_checkIndex_8e157 11 = .ok (.iload_n 1, 1) := by decide +kernel
theorem dJ3_checkIndex_8e157_12 : decode cJ3_checkIndex_8e157 12 = .ok (.invokestatic 95, 3) := by decide +kernel
theorem dJ3_checkIndex_8e157_15 : decode cJ3_checkIndex_8e157 15 = .ok (.athrow, 1) := by decide +kernel
theorem dJ3_checkIndex_8e157_16 : decode cJ3_checkIndex_8e157 16 = .ok (.iload_n 0, 1) := by decide +kernel
theorem dJ3_checkIndex_8e157_17 : decode cJ3_checkIndex_8e157 17 = .ok (.ireturn, 1) := by decide +kernel
end
section

/-! ===== the state: ints and references by the number of the object (or array) and the place in it; K: what an object is ===== -/
abbrev g_St : Type := (Nat → Nat → Int32) × (Nat → Nat → Option Nat)
abbrev g_Kd : Type := (Nat × List Bool) ⊕ (Nat × Nat × Bool)
def g_u {α : Type} (f : Nat → Nat → α) (i k : Nat) (v : α) : Nat → Nat → α := fun a b => if a = i ∧ b = k then v else f a b
theorem g_u_ne {α : Type} {f : Nat → Nat → α} {i k : Nat} {v : α} {a : Nat} (h : a ≠ i) : g_u f i k v a = f a := by
  funext b
  simp [g_u, h]
theorem g_u_row {α : Type} {f : Nat → Nat → α} {i k : Nat} {v : α} : g_u f i k v i = fun b => if b = k then v else f i b := by
  funext b
  simp [g_u]
def g_vals (ad : Nat → Nat) (S : g_St) (i : Nat) (bs : List Bool) : List Value := bs.mapIdx (fun k b => if b = true then va_rf ((S.2 i k).map ad) else .int (S.1 i k))
def g_ev (ad : Nat → Nat) (cy : Nat → ClassId) (S : g_St) (i : Nat) (kd : g_Kd) : va_E := match kd with
  | .inl o => .inr (o.1, g_vals ad S i o.2)
  | .inr (t, n, false) => .inl (cy t, n, .inl (S.1 i))
  | .inr (t, n, true) => .inl (cy t, n, .inr (.inr (.inr (.inr (fun j => (S.2 i j).map ad)))))
def g_pw (K : Nat → g_Kd) (N : Nat) (ad : Nat → Nat) (cy : Nat → ClassId) (S : g_St) : va_W := (List.range N).map (fun i => (ad i, g_ev ad cy S i (K i)))
def g_A (N : Nat) (ad : Nat → Nat) : Nat → Prop := fun q => ∃ i, i < N ∧ q = ad i
theorem g_at {K : Nat → g_Kd} {N : Nat} {ad : Nat → Nat} {cy : Nat → ClassId} {S : g_St} {i : Nat} {kd : g_Kd} (h : i < N ∧ K i = kd) : (g_pw K N ad cy S)[i]? = some (ad i, g_ev ad cy S i kd) := by
  simp [g_pw, List.getElem?_map, List.getElem?_range h.1, h.2]
theorem g_pw_len {K : Nat → g_Kd} {N : Nat} {ad : Nat → Nat} {cy : Nat → ClassId} {S : g_St} : (g_pw K N ad cy S).length = N := by
  simp [g_pw]
theorem g_pw_D {K : Nat → g_Kd} {N : Nat} {ad : Nat → Nat} {cy : Nat → ClassId} {S : g_St} (h : ∀ i j, i < N → j < N → ad i = ad j → i = j) : va_D (g_A N ad) (g_pw K N ad cy S) := by
  have key : ∀ (i : Nat) (p : Nat × va_E), (g_pw K N ad cy S)[i]? = some p → i < N ∧ p.1 = ad i := by
    intro i p hp
    have hi : i < N := by
      have := (List.getElem?_eq_some_iff.mp hp).1
      rwa [g_pw_len] at this
    rw [g_at ⟨hi, rfl⟩] at hp
    cases hp
    exact ⟨hi, rfl⟩
  refine ⟨fun i j p q hp hq e => ?_, fun k q hk => ?_⟩
  · obtain ⟨h1, h2⟩ := key i p hp
    obtain ⟨h3, h4⟩ := key j q hq
    exact h i j h1 h3 (by rw [← h2, ← h4, e])
  · obtain ⟨h1, h2⟩ := key k q hk
    exact ⟨k, h1, h2⟩
theorem g_set {K : Nat → g_Kd} {N : Nat} {ad : Nat → Nat} {cy : Nat → ClassId} {S S' : g_St} {i : Nat} {kd : g_Kd} {e : va_E} (h : i < N ∧ K i = kd) (h1 : ∀ a, a ≠ i → S'.1 a = S.1 a) (h2 : ∀ a, a ≠ i → S'.2 a = S.2 a) (he : e = g_ev ad cy S' i kd) : (g_pw K N ad cy S).set i (ad i, e) = g_pw K N ad cy S' := by
  apply List.ext_getElem?
  intro j
  by_cases hj : i = j
  · subst hj
    rw [List.getElem?_set_self (by rw [g_pw_len]; exact h.1), g_at h, he]
  · rw [List.getElem?_set_ne hj]
    by_cases hn : j < N
    · rw [g_at ⟨hn, rfl⟩, g_at ⟨hn, rfl⟩]
      have e1 := h1 j (fun q => hj q.symm)
      have e2 := h2 j (fun q => hj q.symm)
      unfold g_ev g_vals
      rw [e1, e2]
    · rw [List.getElem?_eq_none (by rw [g_pw_len]; omega), List.getElem?_eq_none (by rw [g_pw_len]; omega)]
theorem g_vals_i {ad : Nat → Nat} {S : g_St} {i k : Nat} {bs : List Bool} (h : bs[k]? = some false) : (g_vals ad S i bs)[k]? = some (.int (S.1 i k)) := by
  simp [g_vals, List.getElem?_mapIdx, h]
theorem g_vals_r {ad : Nat → Nat} {S : g_St} {i k : Nat} {bs : List Bool} (h : bs[k]? = some true) : (g_vals ad S i bs)[k]? = some (va_rf ((S.2 i k).map ad)) := by
  simp [g_vals, List.getElem?_mapIdx, h]
theorem g_vals_len {ad : Nat → Nat} {S : g_St} {i : Nat} {bs : List Bool} : (g_vals ad S i bs).length = bs.length := by
  simp [g_vals]
theorem g_vals_set {ad : Nat → Nat} {S : g_St} {i k : Nat} {bs : List Bool} {v : Int32} (h : bs[k]? = some false) : (g_vals ad S i bs).set k (.int v) = g_vals ad (g_u S.1 i k v, S.2) i bs := by
  apply List.ext_getElem?
  intro j
  have hk : k < bs.length := (List.getElem?_eq_some_iff.mp h).1
  by_cases hj : k = j
  · subst hj
    rw [List.getElem?_set_self (by rw [g_vals_len]; exact hk), g_vals_i h]
    simp [g_u]
  · rw [List.getElem?_set_ne hj]
    unfold g_vals
    rw [List.getElem?_mapIdx, List.getElem?_mapIdx]
    have : ∀ b, (if b = true then va_rf ((S.2 i j).map ad) else .int (S.1 i j)) = (if b = true then va_rf ((S.2 i j).map ad) else (.int (g_u S.1 i k v i j) : Value)) := by
      intro b
      have : g_u S.1 i k v i j = S.1 i j := by simp [g_u, Ne.symm hj]
      rw [this]
    cases bs[j]? with
    | none => rfl
    | some b => exact congrArg some (this b)
theorem g_ev_ist {ad : Nat → Nat} {cy : Nat → ClassId} {S : g_St} {a t n k : Nat} {v : Int32} : (Sum.inl (cy t, n, Sum.inl (upd (S.1 a) k v)) : va_E) = g_ev ad cy (g_u S.1 a k v, S.2) a (.inr (t, n, false)) := by
  have h : g_u S.1 a k v a = upd (S.1 a) k v := by rw [g_u_row]; rfl
  show _ = (Sum.inl (cy t, n, Sum.inl (g_u S.1 a k v a)) : va_E)
  rw [h]
theorem g_ev_ast {ad : Nat → Nat} {cy : Nat → ClassId} {S : g_St} {a t n k b : Nat} : (Sum.inl (cy t, n, Sum.inr (Sum.inr (Sum.inr (Sum.inr (va_up (fun j => (S.2 a j).map ad) k (some (ad b))))))) : va_E) = g_ev ad cy (S.1, g_u S.2 a k (some b)) a (.inr (t, n, true)) := by
  have h : (fun j => (g_u S.2 a k (some b) a j).map ad) = va_up (fun j => (S.2 a j).map ad) k (some (ad b)) := by
    funext j
    rw [g_u_row]
    by_cases q : j = k <;> simp [va_up, q]
  show _ = (Sum.inl (cy t, n, Sum.inr (Sum.inr (Sum.inr (Sum.inr (fun j => (g_u S.2 a k (some b) a j).map ad))))) : va_E)
  rw [h]
/-! ===== the pure words ===== -/
def g_ld {β : Type} (K : Nat → g_Kd) (N : Nat) (kd : g_Kd) (r : Option Nat) (k : Nat → Option β) : Option β := match r with
  | none => none
  | some j => if j < N ∧ K j = kd then k j else none
def g_ix {β : Type} (i : Int32) (n : Nat) (k : Nat → Option β) : Option β := if i < 0 ∨ n ≤ i.toNatClampNeg then none else k i.toNatClampNeg
def g_nz {β : Type} (y : Int32) (k : Option β) : Option β := if y = 0 then none else k
def g_nl {β : Type} (y : Int64) (k : Option β) : Option β := if y = 0 then none else k
def g_zb {β : Type} (v : Int32) (k : Option β) : Option β := if v = 0 ∨ v = 1 then k else none
def g_bd {α β : Type} (x : Option (α × g_St)) (k : α → g_St → Option β) : Option β := match x with
  | none => none
  | some o => k o.1 o.2
def g_th {α β : Type} (x : Option α) (k : α → Option β) : Option β := match x with
  | none => none
  | some o => k o
def g_lp {τ β : Type} (body : τ → Option (τ ⊕ β)) : Nat → τ → Option β
  | 0, _ => none
  | n + 1, t => match body t with
    | none => none
    | some (.inl t') => g_lp body n t'
    | some (.inr b) => some b
theorem g_ld_s {β : Type} {K : Nat → g_Kd} {N : Nat} {kd : g_Kd} {r : Option Nat} {k : Nat → Option β} {z : β} (h : g_ld K N kd r k = some z) : ∃ j, r = some j ∧ (j < N ∧ K j = kd) ∧ k j = some z := by
  cases r with
  | none => cases h
  | some j =>
    by_cases c : j < N ∧ K j = kd
    · exact ⟨j, rfl, c, by simpa [g_ld, c] using h⟩
    · simp [g_ld, c] at h
theorem g_ix_s {β : Type} {i : Int32} {n : Nat} {k : Nat → Option β} {z : β} (h : g_ix i n k = some z) : vp_in i n ∧ k i.toNatClampNeg = some z := by
  unfold g_ix at h
  by_cases c : i < 0 ∨ n ≤ i.toNatClampNeg
  · rw [if_pos c] at h; cases h
  · rw [if_neg c] at h; exact ⟨c, h⟩
theorem g_nz_s {β : Type} {y : Int32} {k : Option β} {z : β} (h : g_nz y k = some z) : ¬ y = 0 ∧ k = some z := by
  unfold g_nz at h
  by_cases c : y = 0
  · rw [if_pos c] at h; cases h
  · rw [if_neg c] at h; exact ⟨c, h⟩
theorem g_nl_s {β : Type} {y : Int64} {k : Option β} {z : β} (h : g_nl y k = some z) : ¬ y = 0 ∧ k = some z := by
  unfold g_nl at h
  by_cases c : y = 0
  · rw [if_pos c] at h; cases h
  · rw [if_neg c] at h; exact ⟨c, h⟩
theorem g_zb_s {β : Type} {v : Int32} {k : Option β} {z : β} (h : g_zb v k = some z) : (v = 0 ∨ v = 1) ∧ k = some z := by
  unfold g_zb at h
  by_cases c : v = 0 ∨ v = 1
  · rw [if_pos c] at h; exact ⟨c, h⟩
  · rw [if_neg c] at h; cases h
theorem g_bd_s {α β : Type} {x : Option (α × g_St)} {k : α → g_St → Option β} {z : β} (h : g_bd x k = some z) : ∃ r S, x = some (r, S) ∧ k r S = some z := by
  cases x with
  | none => cases h
  | some o => exact ⟨o.1, o.2, rfl, h⟩
theorem g_th_s {α β : Type} {x : Option α} {k : α → Option β} {z : β} (h : g_th x k = some z) : ∃ r, x = some r ∧ k r = some z := by
  cases x with
  | none => cases h
  | some o => exact ⟨o, rfl, h⟩
/-- a loop whose body is walked once -/
theorem g_lp_w {τ β : Type} {body : τ → Option (τ ⊕ β)} {P : τ → Prop} {E : β → Prop} (hb : ∀ t r, body t = some r → Sum.elim P E r → P t) : ∀ (n : Nat) (t : τ) (b : β), g_lp body n t = some b → E b → P t
  | 0, _, _, h, _ => by cases h
  | n + 1, t, b, h, hE => by
    unfold g_lp at h
    cases hbt : body t with
    | none => rw [hbt] at h; cases h
    | some r =>
      rw [hbt] at h
      cases r with
      | inl t' => exact hb t _ hbt (g_lp_w hb n t' b h hE)
      | inr b' =>
        have : b' = b := Option.some.inj h
        subst this
        exact hb t _ hbt hE
theorem g_ifs {β : Type} {c : Prop} {dc : Decidable c} {a b : Option β} {z : β} {A : Prop} (h : (@ite _ c dc a b) = some z) (kt : c → a = some z → A) (kf : ¬ c → b = some z → A) : A := by
  by_cases q : c
  · rw [if_pos q] at h; exact kt q h
  · rw [if_neg q] at h; exact kf q h
/-! ===== the text constants and statics that the JDK's text members read: they stand outside of what is written ===== -/
def g_len : List Nat := [5, 4, 6, 4, 5]
def g_byt : List (List Int32) := [[116, 111, 107, 101, 110], [108, 101, 97, 107], [119, 105, 110, 100, 111, 119], [104, 97, 108, 102], [99, 114, 111, 119, 100]]
def g_sk : List Nat := [58, 64, 66, 68, 70]
def g_stx : List String := ["token", "leak", "window", "half", "crowd"]
def g_Z (zz : (Nat → Nat) × (Nat → Nat)) (A : Nat → Prop) (U : State) (H : Heap) : Prop := vk_S 5 g_len g_byt zz.1 zz.2 A U H ∧ (∀ i, i < 5 → vk_R RX6 (g_sk.getD i 0) (g_stx.getD i "") (zz.1 i) U) ∧ va_Z "java/lang/String" "COMPACT_STRINGS" "Z" (.int 1) A U H ∧ va_Zq "jdk/internal/util/Preconditions" "SIOOBE_FORMATTER" "Ljava/util/function/BiFunction;" A U H
theorem g_Z_at {zz : (Nat → Nat) × (Nat → Nat)} {A : Nat → Prop} {s U : State} {H : Heap} {locs : List Loc} (h : g_Z zz A s s.heap) (hS : va_S A s.heap H locs) (hU : U.heap = H) (hW : s.WarmedH U.vm) : g_Z zz A U U.heap := by
  rw [hU]
  exact ⟨(h.1.kept hS.2.1).moved hW.alike, fun i hi => (h.2.1 i hi).warm hW, (h.2.2.1.kept hS.2.1).moved hW.alike, (h.2.2.2.kept hS.2.1).moved hW.alike⟩
theorem g_Z_blind {zz : (Nat → Nat) × (Nat → Nat)} {A : Nat → Prop} {U : State} {g : JFrame} {mk : MethodId} {a : Array Value} (h : g_Z zz A U U.heap) : g_Z zz A (U.calling g mk a) (U.calling g mk a).heap :=
  ⟨h.1.moved (u := U) (U := U.calling g mk a) (Vm.Alike.refl U.vm), fun i hi => vk_R.same (u := U) rfl (h.2.1 i hi), h.2.2.1.moved (u := U) (U := U.calling g mk a) (Vm.Alike.refl U.vm), h.2.2.2.moved (u := U) (U := U.calling g mk a) (Vm.Alike.refl U.vm)⟩
/-! ===== the judgement ===== -/
abbrev g_CX : Type := Program × Launch × Env × Room × State × MethodId × Array Value × List Frame × Method × Code × va_G × (Nat → Nat) × (Nat → ClassId) × ((Nat → Nat) × (Nat → Nat))
abbrev g_p (x : g_CX) : Program := x.1
abbrev g_l (x : g_CX) : Launch := x.2.1
abbrev g_e (x : g_CX) : Env := x.2.2.1
abbrev g_R (x : g_CX) : Room := x.2.2.2.1
abbrev g_s (x : g_CX) : State := x.2.2.2.2.1
abbrev g_m (x : g_CX) : MethodId := x.2.2.2.2.2.1
abbrev g_args (x : g_CX) : Array Value := x.2.2.2.2.2.2.1
abbrev g_below (x : g_CX) : List Frame := x.2.2.2.2.2.2.2.1
abbrev g_meth (x : g_CX) : Method := x.2.2.2.2.2.2.2.2.1
abbrev g_c (x : g_CX) : Code := x.2.2.2.2.2.2.2.2.2.1
abbrev g_D (x : g_CX) : va_G := x.2.2.2.2.2.2.2.2.2.2.1
abbrev g_ad (x : g_CX) : Nat → Nat := x.2.2.2.2.2.2.2.2.2.2.2.1
abbrev g_cy (x : g_CX) : Nat → ClassId := x.2.2.2.2.2.2.2.2.2.2.2.2.1
abbrev g_zz (x : g_CX) : (Nat → Nat) × (Nat → Nat) := x.2.2.2.2.2.2.2.2.2.2.2.2.2
abbrev g_tys (cy : Nat → ClassId) : List (ClassId × FieldType) := [(cy 0, .int), (cy 1, .byte), (cy 2, .boolean), (cy 3, .object RX1), (cy 4, .object RX0), (cy 5, .object RX2), (cy 6, .object RX4), (cy 7, .array .int)]
def g_V (K : Nat → g_Kd) (N : Nat) (x : g_CX) (nL : Nat) (Q : State → Prop) (S : g_St) (pc : Nat) (lv : List (Nat × Value)) (st : List Value) : Prop :=
  ∀ (H : Heap) (locs : List Loc) (ls : Array Slot), va_P (g_D x) vwCl (g_pw K N (g_ad x) (g_cy x) S) H → va_S (g_A N (g_ad x)) (g_s x).heap H locs → lv_has ls nL lv → W (g_p x) (g_l x) (g_e x) (g_R x) (g_s x) (g_m x) (g_args x) (g_below x) (g_meth x) (g_c x) H locs 0 0 Q (F0 (g_m x) pc ls st)
/-- what stands during a method's walk -/
def g_X (N : Nat) (x : g_CX) (cc : ByteArray) (own : String) (nL : Nat) (Ts : List Cond) (rm : Room) (ret : Option FieldType) : Prop :=
  (g_p x).tables.exec = Jvm.exec ∧ (g_c x).code = cc ∧ (g_c x).maxLocals = nL ∧ (g_s x).vm.findClass own = some (g_m x).cls ∧ (∀ w ∈ Ts, w.before (g_args x) (g_s x) = true) ∧ va_K (g_D x) vwCl (g_tys (g_cy x)) (g_s x) ∧ (∀ i j, i < N → j < N → g_ad x i = g_ad x j → i = j) ∧ g_R x = rm ∧ (g_meth x).locks = false ∧ (g_meth x).sig.returnType = ret ∧ g_Z (g_zz x) (g_A N (g_ad x)) (g_s x) (g_s x).heap
/-- a class: its number, its table -/
def g_C (ci : Nat) (C : String) (T : u_T) (ty : Nat → FieldType) (n : Nat) : Prop := vwCl[ci]? = some (C, T, n) ∧ (∀ k, k < n → parseFieldDescriptor (T k).2.2.1 = some (ty k)) ∧ (∀ a, a < n → ∀ b, b < n → a ≠ b → (T a).2.1 ≠ (T b).2.1)
/-- a method's contract: from the state S with these arguments it ends with o -/
abbrev g_Pc (K : Nat → g_Kd) (N : Nat) (D : va_G) (ad : Nat → Nat) (cy : Nat → ClassId) (zz : (Nat → Nat) × (Nat → Nat)) (av : List Value) (S : g_St) : Array Value → State → Prop := va_Pc av (fun U => va_P D vwCl (g_pw K N ad cy S) U.heap ∧ va_K D vwCl (g_tys cy) U ∧ g_Z zz (g_A N ad) U U.heap)
abbrev g_Qi (K : Nat → g_Kd) (N : Nat) (D : va_G) (ad : Nat → Nat) (cy : Nat → ClassId) (o : Int32 × g_St) : Array Value → State → Outcome → State → Prop := va_Qi (fun (r : Int32) (u : g_St) => (r, u) = o) (fun u t => va_P D vwCl (g_pw K N ad cy u) t.heap) (g_A N ad)
abbrev g_Ql (K : Nat → g_Kd) (N : Nat) (D : va_G) (ad : Nat → Nat) (cy : Nat → ClassId) (o : Int64 × g_St) : Array Value → State → Outcome → State → Prop := va_Ql (fun (r : Int64) (u : g_St) => (r, u) = o) (fun u t => va_P D vwCl (g_pw K N ad cy u) t.heap) (g_A N ad)
abbrev g_Qv (K : Nat → g_Kd) (N : Nat) (D : va_G) (ad : Nat → Nat) (cy : Nat → ClassId) (o : Unit × g_St) : Array Value → State → Outcome → State → Prop := va_Qv (fun (u : g_St) => ((), u) = o) (fun u t => va_P D vwCl (g_pw K N ad cy u) t.heap) (g_A N ad)
def g_Mi (l : Launch) (K : Nat → g_Kd) (N : Nat) (D : va_G) (ad : Nat → Nat) (cy : Nat → ClassId) (zz : (Nat → Nat) × (Nat → Nat)) (y : MethodName) (ws : List Cond) (rm : Room) (av : List Value) (S : g_St) (o : Int32 × g_St) : Prop := Met l y ws rm (g_Pc K N D ad cy zz av S) (g_Qi K N D ad cy o) 0 0 (g_A N ad)
def g_Ml (l : Launch) (K : Nat → g_Kd) (N : Nat) (D : va_G) (ad : Nat → Nat) (cy : Nat → ClassId) (zz : (Nat → Nat) × (Nat → Nat)) (y : MethodName) (ws : List Cond) (rm : Room) (av : List Value) (S : g_St) (o : Int64 × g_St) : Prop := Met l y ws rm (g_Pc K N D ad cy zz av S) (g_Ql K N D ad cy o) 0 0 (g_A N ad)
def g_Mv (l : Launch) (K : Nat → g_Kd) (N : Nat) (D : va_G) (ad : Nat → Nat) (cy : Nat → ClassId) (zz : (Nat → Nat) × (Nat → Nat)) (y : MethodName) (ws : List Cond) (rm : Room) (av : List Value) (S : g_St) (o : Unit × g_St) : Prop := Met l y ws rm (g_Pc K N D ad cy zz av S) (g_Qv K N D ad cy o) 0 0 (g_A N ad)
abbrev g_qi (K : Nat → g_Kd) (N : Nat) (x : g_CX) (o : Int32 × g_St) : State → Prop := MQ (g_below x) (g_Qi K N (g_D x) (g_ad x) (g_cy x) o) (g_args x) (g_s x) 0 0 (g_A N (g_ad x))
abbrev g_ql (K : Nat → g_Kd) (N : Nat) (x : g_CX) (o : Int64 × g_St) : State → Prop := MQ (g_below x) (g_Ql K N (g_D x) (g_ad x) (g_cy x) o) (g_args x) (g_s x) 0 0 (g_A N (g_ad x))
abbrev g_qv (K : Nat → g_Kd) (N : Nat) (x : g_CX) (o : Unit × g_St) : State → Prop := MQ (g_below x) (g_Qv K N (g_D x) (g_ad x) (g_cy x) o) (g_args x) (g_s x) 0 0 (g_A N (g_ad x))
section GV
variable {K : Nat → g_Kd} {N : Nat} {x : g_CX} {cc : ByteArray} {own : String} {nL : Nat} {Ts : List Cond} {rm : Room} {ret : Option FieldType} {Q : State → Prop} {S : g_St} {pc : Nat} {lv : List (Nat × Value)} {rest : List Value}

theorem g_iconst (X : g_X N x cc own nL Ts rm ret) {n : Int} {v : Int32} (d : decode cc pc = .ok (.iconst n, 1)) (hv : Int32.ofInt n = v)
    (k : g_V K N x nL Q S (pc + 1) lv (.int v :: rest)) : g_V K N x nL Q S pc lv rest := fun H locs ls hP hS hl => lv_iconst X.1 X.2.1 d hv (k H locs ls hP hS hl)
theorem g_bipush (X : g_X N x cc own nL Ts rm ret) {n : Int} {v : Int32} (d : decode cc pc = .ok (.bipush n, 2)) (hv : (Int8.ofInt n).toInt32 = v)
    (k : g_V K N x nL Q S (pc + 2) lv (.int v :: rest)) : g_V K N x nL Q S pc lv rest := fun H locs ls hP hS hl => lv_bipush X.1 X.2.1 d hv (k H locs ls hP hS hl)
theorem g_sipush (X : g_X N x cc own nL Ts rm ret) {n : Int} {v : Int32} (d : decode cc pc = .ok (.sipush n, 3)) (hv : (Int16.ofInt n).toInt32 = v)
    (k : g_V K N x nL Q S (pc + 3) lv (.int v :: rest)) : g_V K N x nL Q S pc lv rest := fun H locs ls hP hS hl => lv_sipush X.1 X.2.1 d hv (k H locs ls hP hS hl)
theorem g_lconst (X : g_X N x cc own nL Ts rm ret) {n : Fin 2} {v : Int64} (d : decode cc pc = .ok (.lconst n, 1)) (hv : Int64.ofNat (n : Nat) = v)
    (k : g_V K N x nL Q S (pc + 1) lv (.long v :: rest)) : g_V K N x nL Q S pc lv rest := fun H locs ls hP hS hl => lv_lconst X.1 X.2.1 d hv (k H locs ls hP hS hl)
theorem g_ldc (X : g_X N x cc own nL Ts rm ret) {index : Nat} {v : Int32} (w : Cond.constant own index v ∈ Ts) (d : decode cc pc = .ok (.ldc index, 2))
    (k : g_V K N x nL Q S (pc + 2) lv (.int v :: rest)) : g_V K N x nL Q S pc lv rest := fun H locs ls hP hS hl => lv_ldc X.1 X.2.1 X.2.2.2.1 (X.2.2.2.2.1 _ w) d (k H locs ls hP hS hl)
theorem g_ldc_w (X : g_X N x cc own nL Ts rm ret) {index : Nat} {v : Int32} (w : Cond.constant own index v ∈ Ts) (d : decode cc pc = .ok (.ldc_w index, 3))
    (k : g_V K N x nL Q S (pc + 3) lv (.int v :: rest)) : g_V K N x nL Q S pc lv rest := fun H locs ls hP hS hl => lv_ldcw X.1 X.2.1 X.2.2.2.1 (X.2.2.2.2.1 _ w) d (k H locs ls hP hS hl)
theorem g_ldc2 (X : g_X N x cc own nL Ts rm ret) {index : Nat} {v : Int64} (w : Cond.constantLong own index v ∈ Ts) (d : decode cc pc = .ok (.ldc2_w index, 3))
    (k : g_V K N x nL Q S (pc + 3) lv (.long v :: rest)) : g_V K N x nL Q S pc lv rest := fun H locs ls hP hS hl => lv_ldc2 X.1 X.2.1 X.2.2.2.1 (X.2.2.2.2.1 _ w) d (k H locs ls hP hS hl)
theorem g_iload_n (X : g_X N x cc own nL Ts rm ret) {i : Fin 4} {v : Int32} (d : decode cc pc = .ok (.iload_n i, 1)) (j : Nat) (h : lv[j]? = some ((i : Nat), .int v))
    (k : g_V K N x nL Q S (pc + 1) lv (.int v :: rest)) : g_V K N x nL Q S pc lv rest := fun H locs ls hP hS hl => lv_iload_n X.1 X.2.1 d rfl (lv_at hl j h) (k H locs ls hP hS hl)
theorem g_iload (X : g_X N x cc own nL Ts rm ret) {i : Nat} {v : Int32} (d : decode cc pc = .ok (.iload i, 2)) (j : Nat) (h : lv[j]? = some (i, .int v))
    (k : g_V K N x nL Q S (pc + 2) lv (.int v :: rest)) : g_V K N x nL Q S pc lv rest := fun H locs ls hP hS hl => lv_iload X.1 X.2.1 d (lv_at hl j h) (k H locs ls hP hS hl)
theorem g_istore_n (X : g_X N x cc own nL Ts rm ret) (lv' : List (Nat × Value)) {i : Fin 4} {v : Int32} (d : decode cc pc = .ok (.istore_n i, 1)) (hn : (i : Nat) < nL) (hl2 : ((i : Nat), Value.int v) :: lv.filter (fun q => !(q.1 == (i : Nat)) && !(q.1 + 1 == (i : Nat) && q.2.category == 2)) = lv')
    (k : g_V K N x nL Q S (pc + 1) lv' rest) : g_V K N x nL Q S pc lv (.int v :: rest) := fun H locs ls hP hS hl => lv_istore_n X.1 X.2.1 d rfl hl hn hl2 (fun ls hl => k H locs ls hP hS hl)
theorem g_istore (X : g_X N x cc own nL Ts rm ret) (lv' : List (Nat × Value)) {i : Nat} {v : Int32} (d : decode cc pc = .ok (.istore i, 2)) (hn : i < nL) (hl2 : (i, Value.int v) :: lv.filter (fun q => !(q.1 == i) && !(q.1 + 1 == i && q.2.category == 2)) = lv')
    (k : g_V K N x nL Q S (pc + 2) lv' rest) : g_V K N x nL Q S pc lv (.int v :: rest) := fun H locs ls hP hS hl => lv_istore X.1 X.2.1 d hl hn hl2 (fun ls hl => k H locs ls hP hS hl)
theorem g_lload_n (X : g_X N x cc own nL Ts rm ret) {i : Fin 4} {v : Int64} (d : decode cc pc = .ok (.lload_n i, 1)) (j : Nat) (h : lv[j]? = some ((i : Nat), .long v))
    (k : g_V K N x nL Q S (pc + 1) lv (.long v :: rest)) : g_V K N x nL Q S pc lv rest := fun H locs ls hP hS hl => lv_lload_n X.1 X.2.1 d rfl (lv_at hl j h) (k H locs ls hP hS hl)
theorem g_lload (X : g_X N x cc own nL Ts rm ret) {i : Nat} {v : Int64} (d : decode cc pc = .ok (.lload i, 2)) (j : Nat) (h : lv[j]? = some (i, .long v))
    (k : g_V K N x nL Q S (pc + 2) lv (.long v :: rest)) : g_V K N x nL Q S pc lv rest := fun H locs ls hP hS hl => lv_lload X.1 X.2.1 d (lv_at hl j h) (k H locs ls hP hS hl)
theorem g_lstore_n (X : g_X N x cc own nL Ts rm ret) (lv' : List (Nat × Value)) {i : Fin 4} {v : Int64} (d : decode cc pc = .ok (.lstore_n i, 1)) (hn : (i : Nat) + 1 < nL) (hl2 : ((i : Nat), Value.long v) :: lv.filter (fun q => !(q.1 == (i : Nat)) && (!(q.1 == (i : Nat) + 1) && !(q.1 + 1 == (i : Nat) && q.2.category == 2))) = lv')
    (k : g_V K N x nL Q S (pc + 1) lv' rest) : g_V K N x nL Q S pc lv (.long v :: rest) := fun H locs ls hP hS hl => lv_lstore_n X.1 X.2.1 d rfl hl hn hl2 (fun ls hl => k H locs ls hP hS hl)
theorem g_lstore (X : g_X N x cc own nL Ts rm ret) (lv' : List (Nat × Value)) {i : Nat} {v : Int64} (d : decode cc pc = .ok (.lstore i, 2)) (hn : i + 1 < nL) (hl2 : (i, Value.long v) :: lv.filter (fun q => !(q.1 == i) && (!(q.1 == i + 1) && !(q.1 + 1 == i && q.2.category == 2))) = lv')
    (k : g_V K N x nL Q S (pc + 2) lv' rest) : g_V K N x nL Q S pc lv (.long v :: rest) := fun H locs ls hP hS hl => lv_lstore X.1 X.2.1 d hl hn hl2 (fun ls hl => k H locs ls hP hS hl)
theorem g_aload_n (X : g_X N x cc own nL Ts rm ret) {i : Fin 4} {v : Nat} (d : decode cc pc = .ok (.aload_n i, 1)) (j : Nat) (h : lv[j]? = some ((i : Nat), .ref v))
    (k : g_V K N x nL Q S (pc + 1) lv (.ref v :: rest)) : g_V K N x nL Q S pc lv rest := fun H locs ls hP hS hl => lv_aload_n X.1 X.2.1 d rfl (lv_at hl j h) (k H locs ls hP hS hl)
theorem g_aload (X : g_X N x cc own nL Ts rm ret) {i : Nat} {v : Nat} (d : decode cc pc = .ok (.aload i, 2)) (j : Nat) (h : lv[j]? = some (i, .ref v))
    (k : g_V K N x nL Q S (pc + 2) lv (.ref v :: rest)) : g_V K N x nL Q S pc lv rest := fun H locs ls hP hS hl => lv_aload X.1 X.2.1 d (lv_at hl j h) (k H locs ls hP hS hl)
theorem g_astore_n (X : g_X N x cc own nL Ts rm ret) (lv' : List (Nat × Value)) {i : Fin 4} {v : Nat} (d : decode cc pc = .ok (.astore_n i, 1)) (hn : (i : Nat) < nL) (hl2 : ((i : Nat), Value.ref v) :: lv.filter (fun q => !(q.1 == (i : Nat)) && !(q.1 + 1 == (i : Nat) && q.2.category == 2)) = lv')
    (k : g_V K N x nL Q S (pc + 1) lv' rest) : g_V K N x nL Q S pc lv (.ref v :: rest) := fun H locs ls hP hS hl => lv_astore_n X.1 X.2.1 d rfl hl hn hl2 (fun ls hl => k H locs ls hP hS hl)
theorem g_astore (X : g_X N x cc own nL Ts rm ret) (lv' : List (Nat × Value)) {i : Nat} {v : Nat} (d : decode cc pc = .ok (.astore i, 2)) (hn : i < nL) (hl2 : (i, Value.ref v) :: lv.filter (fun q => !(q.1 == i) && !(q.1 + 1 == i && q.2.category == 2)) = lv')
    (k : g_V K N x nL Q S (pc + 2) lv' rest) : g_V K N x nL Q S pc lv (.ref v :: rest) := fun H locs ls hP hS hl => lv_astore X.1 X.2.1 d hl hn hl2 (fun ls hl => k H locs ls hP hS hl)
theorem g_iinc (X : g_X N x cc own nL Ts rm ret) (lv' : List (Nat × Value)) {i : Nat} {n : Int} {a v : Int32} (d : decode cc pc = .ok (.iinc i n, 3)) (j : Nat) (hj : lv[j]? = some (i, .int a)) (hv : a + Int32.ofInt n = v) (hn : i < nL) (hl2 : (i, Value.int v) :: lv.filter (fun q => !(q.1 == i) && !(q.1 + 1 == i && q.2.category == 2)) = lv')
    (k : g_V K N x nL Q S (pc + 3) lv' rest) : g_V K N x nL Q S pc lv rest := fun H locs ls hP hS hl => lv_iinc X.1 X.2.1 d hl hj hv hn hl2 (fun ls hl => k H locs ls hP hS hl)
theorem g_sub (ks : List Nat) (lv' : List (Nat × Value)) (h : lv_pick lv ks = lv') (k : g_V K N x nL Q S pc lv' rest) : g_V K N x nL Q S pc lv rest := fun H locs ls hP hS hl => k H locs ls hP hS (lv_sub hl ks h)
theorem g_iadd (X : g_X N x cc own nL Ts rm ret) {a b : Int32} (d : decode cc pc = .ok (.iadd, 1))
    (k : g_V K N x nL Q S (pc + 1) lv (.int (a + b) :: rest)) : g_V K N x nL Q S pc lv (.int b :: .int a :: rest) := fun H locs ls hP hS hl => lv_iadd X.1 X.2.1 d (k H locs ls hP hS hl)
theorem g_isub (X : g_X N x cc own nL Ts rm ret) {a b : Int32} (d : decode cc pc = .ok (.isub, 1))
    (k : g_V K N x nL Q S (pc + 1) lv (.int (a - b) :: rest)) : g_V K N x nL Q S pc lv (.int b :: .int a :: rest) := fun H locs ls hP hS hl => lv_isub X.1 X.2.1 d (k H locs ls hP hS hl)
theorem g_imul (X : g_X N x cc own nL Ts rm ret) {a b : Int32} (d : decode cc pc = .ok (.imul, 1))
    (k : g_V K N x nL Q S (pc + 1) lv (.int (a * b) :: rest)) : g_V K N x nL Q S pc lv (.int b :: .int a :: rest) := fun H locs ls hP hS hl => lv_imul X.1 X.2.1 d (k H locs ls hP hS hl)
theorem g_iand (X : g_X N x cc own nL Ts rm ret) {a b : Int32} (d : decode cc pc = .ok (.iand, 1))
    (k : g_V K N x nL Q S (pc + 1) lv (.int (a &&& b) :: rest)) : g_V K N x nL Q S pc lv (.int b :: .int a :: rest) := fun H locs ls hP hS hl => lv_iand X.1 X.2.1 d (k H locs ls hP hS hl)
theorem g_ior (X : g_X N x cc own nL Ts rm ret) {a b : Int32} (d : decode cc pc = .ok (.ior, 1))
    (k : g_V K N x nL Q S (pc + 1) lv (.int (a ||| b) :: rest)) : g_V K N x nL Q S pc lv (.int b :: .int a :: rest) := fun H locs ls hP hS hl => lv_ior X.1 X.2.1 d (k H locs ls hP hS hl)
theorem g_ixor (X : g_X N x cc own nL Ts rm ret) {a b : Int32} (d : decode cc pc = .ok (.ixor, 1))
    (k : g_V K N x nL Q S (pc + 1) lv (.int (a ^^^ b) :: rest)) : g_V K N x nL Q S pc lv (.int b :: .int a :: rest) := fun H locs ls hP hS hl => lv_ixor X.1 X.2.1 d (k H locs ls hP hS hl)
theorem g_ishl (X : g_X N x cc own nL Ts rm ret) {a b : Int32} (d : decode cc pc = .ok (.ishl, 1))
    (k : g_V K N x nL Q S (pc + 1) lv (.int (a <<< (b &&& 31)) :: rest)) : g_V K N x nL Q S pc lv (.int b :: .int a :: rest) := fun H locs ls hP hS hl => lv_ishl X.1 X.2.1 d (k H locs ls hP hS hl)
theorem g_ishr (X : g_X N x cc own nL Ts rm ret) {a b : Int32} (d : decode cc pc = .ok (.ishr, 1))
    (k : g_V K N x nL Q S (pc + 1) lv (.int (a >>> (b &&& 31)) :: rest)) : g_V K N x nL Q S pc lv (.int b :: .int a :: rest) := fun H locs ls hP hS hl => lv_ishr X.1 X.2.1 d (k H locs ls hP hS hl)
theorem g_iushr (X : g_X N x cc own nL Ts rm ret) {a b : Int32} (d : decode cc pc = .ok (.iushr, 1))
    (k : g_V K N x nL Q S (pc + 1) lv (.int (a.toUInt32 >>> (b.toUInt32 &&& Int32.toUInt32 31)).toInt32 :: rest)) : g_V K N x nL Q S pc lv (.int b :: .int a :: rest) := fun H locs ls hP hS hl => lv_iushr X.1 X.2.1 d rfl (k H locs ls hP hS hl)
theorem g_ladd (X : g_X N x cc own nL Ts rm ret) {a b : Int64} (d : decode cc pc = .ok (.ladd, 1))
    (k : g_V K N x nL Q S (pc + 1) lv (.long (a + b) :: rest)) : g_V K N x nL Q S pc lv (.long b :: .long a :: rest) := fun H locs ls hP hS hl => lv_ladd X.1 X.2.1 d (k H locs ls hP hS hl)
theorem g_lsub (X : g_X N x cc own nL Ts rm ret) {a b : Int64} (d : decode cc pc = .ok (.lsub, 1))
    (k : g_V K N x nL Q S (pc + 1) lv (.long (a - b) :: rest)) : g_V K N x nL Q S pc lv (.long b :: .long a :: rest) := fun H locs ls hP hS hl => lv_lsub X.1 X.2.1 d (k H locs ls hP hS hl)
theorem g_lmul (X : g_X N x cc own nL Ts rm ret) {a b : Int64} (d : decode cc pc = .ok (.lmul, 1))
    (k : g_V K N x nL Q S (pc + 1) lv (.long (a * b) :: rest)) : g_V K N x nL Q S pc lv (.long b :: .long a :: rest) := fun H locs ls hP hS hl => lv_lmul X.1 X.2.1 d (k H locs ls hP hS hl)
theorem g_idiv (X : g_X N x cc own nL Ts rm ret) {β : Type} {z : β} {kk : Option β} {a b : Int32} (d : decode cc pc = .ok (.idiv, 1)) (h : g_nz b kk = some z)
    (k : kk = some z → g_V K N x nL Q S (pc + 1) lv (.int (a / b) :: rest)) : g_V K N x nL Q S pc lv (.int b :: .int a :: rest) := fun H locs ls hP hS hl => lv_idiv X.1 X.2.1 d (g_nz_s h).1 (k (g_nz_s h).2 H locs ls hP hS hl)
theorem g_irem (X : g_X N x cc own nL Ts rm ret) {β : Type} {z : β} {kk : Option β} {a b : Int32} (d : decode cc pc = .ok (.irem, 1)) (h : g_nz b kk = some z)
    (k : kk = some z → g_V K N x nL Q S (pc + 1) lv (.int (a - a / b * b) :: rest)) : g_V K N x nL Q S pc lv (.int b :: .int a :: rest) := fun H locs ls hP hS hl => lv_irem X.1 X.2.1 d (g_nz_s h).1 (k (g_nz_s h).2 H locs ls hP hS hl)
theorem g_ldiv (X : g_X N x cc own nL Ts rm ret) {β : Type} {z : β} {kk : Option β} {a b : Int64} (d : decode cc pc = .ok (.ldiv, 1)) (h : g_nl b kk = some z)
    (k : kk = some z → g_V K N x nL Q S (pc + 1) lv (.long (a / b) :: rest)) : g_V K N x nL Q S pc lv (.long b :: .long a :: rest) := fun H locs ls hP hS hl => lv_ldiv X.1 X.2.1 d (g_nl_s h).1 (k (g_nl_s h).2 H locs ls hP hS hl)
theorem g_lrem (X : g_X N x cc own nL Ts rm ret) {β : Type} {z : β} {kk : Option β} {a b : Int64} (d : decode cc pc = .ok (.lrem, 1)) (h : g_nl b kk = some z)
    (k : kk = some z → g_V K N x nL Q S (pc + 1) lv (.long (a - a / b * b) :: rest)) : g_V K N x nL Q S pc lv (.long b :: .long a :: rest) := fun H locs ls hP hS hl => lv_lrem X.1 X.2.1 d (g_nl_s h).1 (k (g_nl_s h).2 H locs ls hP hS hl)
theorem g_ineg (X : g_X N x cc own nL Ts rm ret) {a : Int32} (d : decode cc pc = .ok (.ineg, 1))
    (k : g_V K N x nL Q S (pc + 1) lv (.int (-a) :: rest)) : g_V K N x nL Q S pc lv (.int a :: rest) := fun H locs ls hP hS hl => lv_ineg X.1 X.2.1 d (k H locs ls hP hS hl)
theorem g_i2l (X : g_X N x cc own nL Ts rm ret) {a : Int32} (d : decode cc pc = .ok (.i2l, 1))
    (k : g_V K N x nL Q S (pc + 1) lv (.long a.toInt64 :: rest)) : g_V K N x nL Q S pc lv (.int a :: rest) := fun H locs ls hP hS hl => lv_i2l X.1 X.2.1 d rfl (k H locs ls hP hS hl)
theorem g_i2b (X : g_X N x cc own nL Ts rm ret) {a : Int32} (d : decode cc pc = .ok (.i2b, 1))
    (k : g_V K N x nL Q S (pc + 1) lv (.int a.toInt8.toInt32 :: rest)) : g_V K N x nL Q S pc lv (.int a :: rest) := fun H locs ls hP hS hl => lv_i2b X.1 X.2.1 d rfl (k H locs ls hP hS hl)
theorem g_i2s (X : g_X N x cc own nL Ts rm ret) {a : Int32} (d : decode cc pc = .ok (.i2s, 1))
    (k : g_V K N x nL Q S (pc + 1) lv (.int a.toInt16.toInt32 :: rest)) : g_V K N x nL Q S pc lv (.int a :: rest) := fun H locs ls hP hS hl => lv_i2s X.1 X.2.1 d rfl (k H locs ls hP hS hl)
theorem g_lcmp (X : g_X N x cc own nL Ts rm ret) {a b : Int64} (d : decode cc pc = .ok (.lcmp, 1))
    (k : g_V K N x nL Q S (pc + 1) lv (.int (lg_cmp a b) :: rest)) : g_V K N x nL Q S pc lv (.long b :: .long a :: rest) := fun H locs ls hP hS hl => W.lcmp X.1 X.2.1 d (k H locs ls hP hS hl)
theorem g_dup (X : g_X N x cc own nL Ts rm ret) {a : Value} (d : decode cc pc = .ok (.dup, 1)) (ha : a.category = 1)
    (k : g_V K N x nL Q S (pc + 1) lv (a :: a :: rest)) : g_V K N x nL Q S pc lv (a :: rest) := fun H locs ls hP hS hl => lv_dup X.1 X.2.1 d ha (k H locs ls hP hS hl)
theorem g_dup_x1 (X : g_X N x cc own nL Ts rm ret) {a b : Value} (d : decode cc pc = .ok (.dup_x1, 1)) (ha : a.category = 1) (hb : b.category = 1)
    (k : g_V K N x nL Q S (pc + 1) lv (a :: b :: a :: rest)) : g_V K N x nL Q S pc lv (a :: b :: rest) := fun H locs ls hP hS hl => lv_dup_x1 X.1 X.2.1 d ha hb (k H locs ls hP hS hl)
theorem g_dup2_11 (X : g_X N x cc own nL Ts rm ret) {a b : Value} (d : decode cc pc = .ok (.dup2, 1)) (ha : a.category = 1) (hb : b.category = 1)
    (k : g_V K N x nL Q S (pc + 1) lv (a :: b :: a :: b :: rest)) : g_V K N x nL Q S pc lv (a :: b :: rest) := fun H locs ls hP hS hl => lv_dup2_11 X.1 X.2.1 d ha hb (k H locs ls hP hS hl)
theorem g_pop (X : g_X N x cc own nL Ts rm ret) {a : Value} (d : decode cc pc = .ok (.pop, 1)) (ha : a.category = 1)
    (k : g_V K N x nL Q S (pc + 1) lv rest) : g_V K N x nL Q S pc lv (a :: rest) := fun H locs ls hP hS hl => lv_pop X.1 X.2.1 d ha (k H locs ls hP hS hl)
theorem g_if_eq (X : g_X N x cc own nL Ts rm ret) {off : Int} (tgt : Nat) {a : Int32} {β : Type} {z : β} {tt ff : Option β} {dc : Decidable (a = 0)} (d : decode cc pc = .ok (.ifCond .eq off, 3)) (ht : (pc : Int) + off = (tgt : Int)) (h : (@ite _ (a = 0) dc tt ff) = some z)
    (kt : (a = 0) → tt = some z → g_V K N x nL Q S tgt lv rest) (kf : (¬ a = 0) → ff = some z → g_V K N x nL Q S (pc + 3) lv rest) : g_V K N x nL Q S pc lv (.int a :: rest) := fun H locs ls hP hS hl => lv_if_eq X.1 X.2.1 d ht (fun q => kt q (by rw [if_pos q] at h; exact h) H locs ls hP hS hl) (fun q => kf q (by rw [if_neg q] at h; exact h) H locs ls hP hS hl)
theorem g_icmp_eq (X : g_X N x cc own nL Ts rm ret) {off : Int} (tgt : Nat) {a b : Int32} {β : Type} {z : β} {tt ff : Option β} {dc : Decidable (a = b)} (d : decode cc pc = .ok (.if_icmp .eq off, 3)) (ht : (pc : Int) + off = (tgt : Int)) (h : (@ite _ (a = b) dc tt ff) = some z)
    (kt : (a = b) → tt = some z → g_V K N x nL Q S tgt lv rest) (kf : (¬ a = b) → ff = some z → g_V K N x nL Q S (pc + 3) lv rest) : g_V K N x nL Q S pc lv (.int b :: .int a :: rest) := fun H locs ls hP hS hl => lv_icmp_eq X.1 X.2.1 d ht (fun q => kt q (by rw [if_pos q] at h; exact h) H locs ls hP hS hl) (fun q => kf q (by rw [if_neg q] at h; exact h) H locs ls hP hS hl)
theorem g_if_ne (X : g_X N x cc own nL Ts rm ret) {off : Int} (tgt : Nat) {a : Int32} {β : Type} {z : β} {tt ff : Option β} {dc : Decidable (a = 0)} (d : decode cc pc = .ok (.ifCond .ne off, 3)) (ht : (pc : Int) + off = (tgt : Int)) (h : (@ite _ (a = 0) dc ff tt) = some z)
    (kt : (¬ a = 0) → tt = some z → g_V K N x nL Q S tgt lv rest) (kf : (a = 0) → ff = some z → g_V K N x nL Q S (pc + 3) lv rest) : g_V K N x nL Q S pc lv (.int a :: rest) := fun H locs ls hP hS hl => lv_if_ne X.1 X.2.1 d ht (fun q => kt q (by rw [if_neg q] at h; exact h) H locs ls hP hS hl) (fun q => kf q (by rw [if_pos q] at h; exact h) H locs ls hP hS hl)
theorem g_icmp_ne (X : g_X N x cc own nL Ts rm ret) {off : Int} (tgt : Nat) {a b : Int32} {β : Type} {z : β} {tt ff : Option β} {dc : Decidable (a = b)} (d : decode cc pc = .ok (.if_icmp .ne off, 3)) (ht : (pc : Int) + off = (tgt : Int)) (h : (@ite _ (a = b) dc ff tt) = some z)
    (kt : (¬ a = b) → tt = some z → g_V K N x nL Q S tgt lv rest) (kf : (a = b) → ff = some z → g_V K N x nL Q S (pc + 3) lv rest) : g_V K N x nL Q S pc lv (.int b :: .int a :: rest) := fun H locs ls hP hS hl => lv_icmp_ne X.1 X.2.1 d ht (fun q => kt q (by rw [if_neg q] at h; exact h) H locs ls hP hS hl) (fun q => kf q (by rw [if_pos q] at h; exact h) H locs ls hP hS hl)
theorem g_if_lt (X : g_X N x cc own nL Ts rm ret) {off : Int} (tgt : Nat) {a : Int32} {β : Type} {z : β} {tt ff : Option β} {dc : Decidable (a < 0)} (d : decode cc pc = .ok (.ifCond .lt off, 3)) (ht : (pc : Int) + off = (tgt : Int)) (h : (@ite _ (a < 0) dc tt ff) = some z)
    (kt : (a < 0) → tt = some z → g_V K N x nL Q S tgt lv rest) (kf : (¬ a < 0) → ff = some z → g_V K N x nL Q S (pc + 3) lv rest) : g_V K N x nL Q S pc lv (.int a :: rest) := fun H locs ls hP hS hl => lv_if_lt X.1 X.2.1 d ht (fun q => kt q (by rw [if_pos q] at h; exact h) H locs ls hP hS hl) (fun q => kf q (by rw [if_neg q] at h; exact h) H locs ls hP hS hl)
theorem g_icmp_lt (X : g_X N x cc own nL Ts rm ret) {off : Int} (tgt : Nat) {a b : Int32} {β : Type} {z : β} {tt ff : Option β} {dc : Decidable (a < b)} (d : decode cc pc = .ok (.if_icmp .lt off, 3)) (ht : (pc : Int) + off = (tgt : Int)) (h : (@ite _ (a < b) dc tt ff) = some z)
    (kt : (a < b) → tt = some z → g_V K N x nL Q S tgt lv rest) (kf : (¬ a < b) → ff = some z → g_V K N x nL Q S (pc + 3) lv rest) : g_V K N x nL Q S pc lv (.int b :: .int a :: rest) := fun H locs ls hP hS hl => lv_icmp_lt X.1 X.2.1 d ht (fun q => kt q (by rw [if_pos q] at h; exact h) H locs ls hP hS hl) (fun q => kf q (by rw [if_neg q] at h; exact h) H locs ls hP hS hl)
theorem g_if_ge (X : g_X N x cc own nL Ts rm ret) {off : Int} (tgt : Nat) {a : Int32} {β : Type} {z : β} {tt ff : Option β} {dc : Decidable (0 ≤ a)} (d : decode cc pc = .ok (.ifCond .ge off, 3)) (ht : (pc : Int) + off = (tgt : Int)) (h : (@ite _ (0 ≤ a) dc tt ff) = some z)
    (kt : (0 ≤ a) → tt = some z → g_V K N x nL Q S tgt lv rest) (kf : (¬ 0 ≤ a) → ff = some z → g_V K N x nL Q S (pc + 3) lv rest) : g_V K N x nL Q S pc lv (.int a :: rest) := fun H locs ls hP hS hl => lv_if_ge X.1 X.2.1 d ht (fun q => kt q (by rw [if_pos q] at h; exact h) H locs ls hP hS hl) (fun q => kf q (by rw [if_neg q] at h; exact h) H locs ls hP hS hl)
theorem g_icmp_ge (X : g_X N x cc own nL Ts rm ret) {off : Int} (tgt : Nat) {a b : Int32} {β : Type} {z : β} {tt ff : Option β} {dc : Decidable (b ≤ a)} (d : decode cc pc = .ok (.if_icmp .ge off, 3)) (ht : (pc : Int) + off = (tgt : Int)) (h : (@ite _ (b ≤ a) dc tt ff) = some z)
    (kt : (b ≤ a) → tt = some z → g_V K N x nL Q S tgt lv rest) (kf : (¬ b ≤ a) → ff = some z → g_V K N x nL Q S (pc + 3) lv rest) : g_V K N x nL Q S pc lv (.int b :: .int a :: rest) := fun H locs ls hP hS hl => lv_icmp_ge X.1 X.2.1 d ht (fun q => kt q (by rw [if_pos q] at h; exact h) H locs ls hP hS hl) (fun q => kf q (by rw [if_neg q] at h; exact h) H locs ls hP hS hl)
theorem g_if_gt (X : g_X N x cc own nL Ts rm ret) {off : Int} (tgt : Nat) {a : Int32} {β : Type} {z : β} {tt ff : Option β} {dc : Decidable (0 < a)} (d : decode cc pc = .ok (.ifCond .gt off, 3)) (ht : (pc : Int) + off = (tgt : Int)) (h : (@ite _ (0 < a) dc tt ff) = some z)
    (kt : (0 < a) → tt = some z → g_V K N x nL Q S tgt lv rest) (kf : (¬ 0 < a) → ff = some z → g_V K N x nL Q S (pc + 3) lv rest) : g_V K N x nL Q S pc lv (.int a :: rest) := fun H locs ls hP hS hl => lv_if_gt X.1 X.2.1 d ht (fun q => kt q (by rw [if_pos q] at h; exact h) H locs ls hP hS hl) (fun q => kf q (by rw [if_neg q] at h; exact h) H locs ls hP hS hl)
theorem g_icmp_gt (X : g_X N x cc own nL Ts rm ret) {off : Int} (tgt : Nat) {a b : Int32} {β : Type} {z : β} {tt ff : Option β} {dc : Decidable (b < a)} (d : decode cc pc = .ok (.if_icmp .gt off, 3)) (ht : (pc : Int) + off = (tgt : Int)) (h : (@ite _ (b < a) dc tt ff) = some z)
    (kt : (b < a) → tt = some z → g_V K N x nL Q S tgt lv rest) (kf : (¬ b < a) → ff = some z → g_V K N x nL Q S (pc + 3) lv rest) : g_V K N x nL Q S pc lv (.int b :: .int a :: rest) := fun H locs ls hP hS hl => lv_icmp_gt X.1 X.2.1 d ht (fun q => kt q (by rw [if_pos q] at h; exact h) H locs ls hP hS hl) (fun q => kf q (by rw [if_neg q] at h; exact h) H locs ls hP hS hl)
theorem g_if_le (X : g_X N x cc own nL Ts rm ret) {off : Int} (tgt : Nat) {a : Int32} {β : Type} {z : β} {tt ff : Option β} {dc : Decidable (a ≤ 0)} (d : decode cc pc = .ok (.ifCond .le off, 3)) (ht : (pc : Int) + off = (tgt : Int)) (h : (@ite _ (a ≤ 0) dc tt ff) = some z)
    (kt : (a ≤ 0) → tt = some z → g_V K N x nL Q S tgt lv rest) (kf : (¬ a ≤ 0) → ff = some z → g_V K N x nL Q S (pc + 3) lv rest) : g_V K N x nL Q S pc lv (.int a :: rest) := fun H locs ls hP hS hl => lv_if_le X.1 X.2.1 d ht (fun q => kt q (by rw [if_pos q] at h; exact h) H locs ls hP hS hl) (fun q => kf q (by rw [if_neg q] at h; exact h) H locs ls hP hS hl)
theorem g_icmp_le (X : g_X N x cc own nL Ts rm ret) {off : Int} (tgt : Nat) {a b : Int32} {β : Type} {z : β} {tt ff : Option β} {dc : Decidable (a ≤ b)} (d : decode cc pc = .ok (.if_icmp .le off, 3)) (ht : (pc : Int) + off = (tgt : Int)) (h : (@ite _ (a ≤ b) dc tt ff) = some z)
    (kt : (a ≤ b) → tt = some z → g_V K N x nL Q S tgt lv rest) (kf : (¬ a ≤ b) → ff = some z → g_V K N x nL Q S (pc + 3) lv rest) : g_V K N x nL Q S pc lv (.int b :: .int a :: rest) := fun H locs ls hP hS hl => lv_icmp_le X.1 X.2.1 d ht (fun q => kt q (by rw [if_pos q] at h; exact h) H locs ls hP hS hl) (fun q => kf q (by rw [if_neg q] at h; exact h) H locs ls hP hS hl)
theorem g_goto (X : g_X N x cc own nL Ts rm ret) {off : Int} (tgt : Nat) (d : decode cc pc = .ok (.goto off, 3)) (ht : (pc : Int) + off = (tgt : Int))
    (k : g_V K N x nL Q S tgt lv rest) : g_V K N x nL Q S pc lv rest := fun H locs ls hP hS hl => lv_goto X.1 X.2.1 d ht (k H locs ls hP hS hl)
theorem g_sw_out {a : Int32} {hi : Int} {n : Nat} (hn : n < 1000) (hh : hi = n) (h : ∀ k : Nat, k ≤ n → a ≠ nI k) : a.toInt < 0 ∨ hi < a.toInt := by
  rcases Classical.em (a.toInt < 0 ∨ hi < a.toInt) with c | c
  · exact c
  · exfalso
    have h0 : 0 ≤ a.toInt := by omega
    have h1 : a.toInt ≤ n := by omega
    refine h a.toInt.toNat (by omega) ?_
    apply Int32.toInt_inj.mp
    rw [nI_toInt (by omega)]
    omega

theorem g_tableIn (X : g_X N x cc own nL Ts rm ret) {dflt lo hi : Int} {offs : Array Int} {len : Nat} {a : Int32} {off : Int} (tgt : Nat) (d : decode cc pc = .ok (.tableswitch dflt lo hi offs, len)) (h1 : ¬ a.toInt < lo) (h2 : ¬ hi < a.toInt) (ho : offs[(a.toInt - lo).toNat]? = some off) (ht : (pc : Int) + off = (tgt : Int))
    (k : g_V K N x nL Q S tgt lv rest) : g_V K N x nL Q S pc lv (.int a :: rest) := fun H locs ls hP hS hl => lv_tableIn X.1 X.2.1 d h1 h2 ho ht (k H locs ls hP hS hl)
theorem g_tableOut (X : g_X N x cc own nL Ts rm ret) {dflt lo hi : Int} {offs : Array Int} {len : Nat} {a : Int32} (tgt : Nat) (d : decode cc pc = .ok (.tableswitch dflt lo hi offs, len)) (h1 : a.toInt < lo ∨ hi < a.toInt) (ht : (pc : Int) + dflt = (tgt : Int))
    (k : g_V K N x nL Q S tgt lv rest) : g_V K N x nL Q S pc lv (.int a :: rest) := fun H locs ls hP hS hl => lv_tableOut X.1 X.2.1 d h1 ht (k H locs ls hP hS hl)
theorem g_geti (X : g_X N x cc own nL Ts rm ret) {ci : Nat} {C : String} {T : u_T} {ty : Nat → FieldType} {n : Nat} {bs : List Bool} (hC : g_C ci C T ty n) (hin : ∀ w ∈ u_ws C T n, w ∈ Ts) (k : Nat) (hk : k < n) {index : Nat} (w : Cond.fieldLink own index (T k).1 (T k).2.1 (T k).2.2.1 ∈ Ts) {j : Nat} (hj : j < N ∧ K j = .inl (ci, bs)) (hb : bs[k]? = some false) (d : decode cc pc = .ok (.getfield index, 3))
    (kk : g_V K N x nL Q S (pc + 3) lv (.int (S.1 j k) :: rest)) : g_V K N x nL Q S pc lv (.ref (g_ad x j) :: rest) := fun H locs ls hP hS hl => va_get (cl := vwCl) X.1 X.2.1 X.2.2.2.2.1 hin X.2.2.2.1 X.2.2.2.2.2.1 hP j (g_at hj) hC.1 k hk (X.2.2.2.2.1 _ w) (fun _ h => h) (g_vals_i hb) d (kk H locs ls hP hS hl)
theorem g_getr (X : g_X N x cc own nL Ts rm ret) {ci : Nat} {C : String} {T : u_T} {ty : Nat → FieldType} {n : Nat} {bs : List Bool} (hC : g_C ci C T ty n) (hin : ∀ w ∈ u_ws C T n, w ∈ Ts) (k : Nat) (hk : k < n) {index : Nat} (w : Cond.fieldLink own index (T k).1 (T k).2.1 (T k).2.2.1 ∈ Ts) {j : Nat} (hj : j < N ∧ K j = .inl (ci, bs)) (hb : bs[k]? = some true) (d : decode cc pc = .ok (.getfield index, 3)) {β : Type} {z : β} {kd : g_Kd} {f : Nat → Option β} (h : g_ld K N kd (S.2 j k) f = some z)
    (kk : ∀ a, (a < N ∧ K a = kd) → f a = some z → g_V K N x nL Q S (pc + 3) lv (.ref (g_ad x a) :: rest)) : g_V K N x nL Q S pc lv (.ref (g_ad x j) :: rest) := by
  obtain ⟨a, ha, hka, hf⟩ := g_ld_s h
  intro H locs ls hP hS hl
  refine va_get (cl := vwCl) (v := .ref (g_ad x a)) X.1 X.2.1 X.2.2.2.2.1 hin X.2.2.2.1 X.2.2.2.2.2.1 hP j (g_at hj) hC.1 k hk (X.2.2.2.2.1 _ w) (fun _ h => h) ?_ d (kk a hka hf H locs ls hP hS hl)
  rw [g_vals_r hb, ha]
  rfl
theorem g_puti (X : g_X N x cc own nL Ts rm ret) {ci : Nat} {C : String} {T : u_T} {ty : Nat → FieldType} {n : Nat} {bs : List Bool} (hC : g_C ci C T ty n) (hin : ∀ w ∈ u_ws C T n, w ∈ Ts) (k : Nat) (hk : k < n) {index : Nat} (w : Cond.fieldLink own index (T k).1 (T k).2.1 (T k).2.2.1 ∈ Ts) {j : Nat} (hj : j < N ∧ K j = .inl (ci, bs)) (hb : bs[k]? = some false) (hfin : (T k).2.2.2 = false) {t : FieldType} {v : Int32} (hd : parseFieldDescriptor (T k).2.2.1 = some t) (hn : narrow t (.int v) = .int v) (hf : fits t (.int v) = true) (d : decode cc pc = .ok (.putfield index, 3))
    (kk : g_V K N x nL Q (g_u S.1 j k v, S.2) (pc + 3) lv rest) : g_V K N x nL Q S pc lv (.int v :: .ref (g_ad x j) :: rest) := by
  intro H locs ls hP hS hl
  refine va_put (cl := vwCl) X.1 X.2.1 X.2.2.2.2.1 hin ty hC.2.1 hC.2.2 X.2.2.2.1 X.2.2.2.2.2.1 hP (g_pw_D X.2.2.2.2.2.2.1) hS j (g_at hj) hC.1 k hk (X.2.2.2.2.1 _ w) (fun _ h => h) hfin hd hn hf (by rw [g_vals_len]; exact (List.getElem?_eq_some_iff.mp hb).1) d ?_
  intro H1 locs1 hP1 hD1 hS1
  rw [g_set (S := S) (S' := (g_u S.1 j k v, S.2)) hj (fun a h => g_u_ne h) (fun _ _ => rfl) (by show _ = Sum.inr (ci, _); rw [g_vals_set hb])] at hP1
  exact kk H1 locs1 ls hP1 hS1 hl
theorem g_iald (X : g_X N x cc own nL Ts rm ret) {a n : Nat} {i : Int32} (ha : a < N ∧ K a = .inr (0, n, false)) (d : decode cc pc = .ok (.iaload, 1)) {β : Type} {z : β} {f : Nat → Option β} (h : g_ix i n f = some z)
    (kk : ∀ j, j = i.toNatClampNeg → f j = some z → g_V K N x nL Q S (pc + 1) lv (.int (S.1 a j) :: rest)) : g_V K N x nL Q S pc lv (.int i :: .ref (g_ad x a) :: rest) := fun H locs ls hP hS hl =>
  va_iald (cl := vwCl) X.1 X.2.1 X.2.2.2.2.2.1 hP a 0 (g_at ha) rfl (g_ix_s h).1 d (kk _ rfl (g_ix_s h).2 H locs ls hP hS hl)
theorem g_bald (X : g_X N x cc own nL Ts rm ret) {a n : Nat} {i : Int32} (ha : a < N ∧ K a = .inr (1, n, false)) (d : decode cc pc = .ok (.baload, 1)) {β : Type} {z : β} {f : Nat → Option β} (h : g_ix i n f = some z)
    (kk : ∀ j, j = i.toNatClampNeg → f j = some z → g_V K N x nL Q S (pc + 1) lv (.int (S.1 a j) :: rest)) : g_V K N x nL Q S pc lv (.int i :: .ref (g_ad x a) :: rest) := fun H locs ls hP hS hl =>
  va_bald (cl := vwCl) X.1 X.2.1 X.2.2.2.2.2.1 hP a 1 (g_at ha) rfl (g_ix_s h).1 d (kk _ rfl (g_ix_s h).2 H locs ls hP hS hl)
theorem g_zald (X : g_X N x cc own nL Ts rm ret) {a n : Nat} {i : Int32} (ha : a < N ∧ K a = .inr (2, n, false)) (d : decode cc pc = .ok (.baload, 1)) {β : Type} {z : β} {f : Nat → Option β} (h : g_ix i n f = some z)
    (kk : ∀ j, j = i.toNatClampNeg → f j = some z → g_V K N x nL Q S (pc + 1) lv (.int (S.1 a j) :: rest)) : g_V K N x nL Q S pc lv (.int i :: .ref (g_ad x a) :: rest) := fun H locs ls hP hS hl =>
  va_zald (cl := vwCl) X.1 X.2.1 X.2.2.2.2.2.1 hP a 2 (g_at ha) rfl (g_ix_s h).1 d (kk _ rfl (g_ix_s h).2 H locs ls hP hS hl)
theorem g_iast (X : g_X N x cc own nL Ts rm ret) {a n : Nat} {i v : Int32} (ha : a < N ∧ K a = .inr (0, n, false)) (d : decode cc pc = .ok (.iastore, 1)) {β : Type} {z : β} {f : Nat → Option β} (h : g_ix i n f = some z)
    (kk : ∀ j, j = i.toNatClampNeg → f j = some z → g_V K N x nL Q (g_u S.1 a j (v), S.2) (pc + 1) lv rest) : g_V K N x nL Q S pc lv (.int v :: .int i :: .ref (g_ad x a) :: rest) := by
  intro H locs ls hP hS hl
  refine va_iast (cl := vwCl) X.1 X.2.1 X.2.2.2.2.2.1 hP (g_pw_D X.2.2.2.2.2.2.1) hS a 0 (g_at ha) rfl (g_ix_s h).1 d ?_
  intro H1 locs1 hP1 hD1 hS1
  rw [g_set (S := S) (S' := (g_u S.1 a i.toNatClampNeg (v), S.2)) ha (fun a h => g_u_ne h) (fun _ _ => rfl) g_ev_ist] at hP1
  exact kk _ rfl (g_ix_s h).2 H1 locs1 ls hP1 hS1 hl
theorem g_bast (X : g_X N x cc own nL Ts rm ret) {a n : Nat} {i v : Int32} (ha : a < N ∧ K a = .inr (1, n, false)) (d : decode cc pc = .ok (.bastore, 1)) {β : Type} {z : β} {f : Nat → Option β} (h : g_ix i n f = some z)
    (kk : ∀ j, j = i.toNatClampNeg → f j = some z → g_V K N x nL Q (g_u S.1 a j (vp_nar .byte v), S.2) (pc + 1) lv rest) : g_V K N x nL Q S pc lv (.int v :: .int i :: .ref (g_ad x a) :: rest) := by
  intro H locs ls hP hS hl
  refine va_bast (cl := vwCl) X.1 X.2.1 X.2.2.2.2.2.1 hP (g_pw_D X.2.2.2.2.2.2.1) hS a 1 (g_at ha) rfl (g_ix_s h).1 d ?_
  intro H1 locs1 hP1 hD1 hS1
  rw [g_set (S := S) (S' := (g_u S.1 a i.toNatClampNeg (vp_nar .byte v), S.2)) ha (fun a h => g_u_ne h) (fun _ _ => rfl) g_ev_ist] at hP1
  exact kk _ rfl (g_ix_s h).2 H1 locs1 ls hP1 hS1 hl
theorem g_zast (X : g_X N x cc own nL Ts rm ret) {a n : Nat} {i v : Int32} (ha : a < N ∧ K a = .inr (2, n, false)) (d : decode cc pc = .ok (.bastore, 1)) {β : Type} {z : β} {f : Nat → Option β} (h : g_ix i n f = some z)
    (kk : ∀ j, j = i.toNatClampNeg → f j = some z → g_V K N x nL Q (g_u S.1 a j (vp_nar .boolean v), S.2) (pc + 1) lv rest) : g_V K N x nL Q S pc lv (.int v :: .int i :: .ref (g_ad x a) :: rest) := by
  intro H locs ls hP hS hl
  refine va_zast (cl := vwCl) X.1 X.2.1 X.2.2.2.2.2.1 hP (g_pw_D X.2.2.2.2.2.2.1) hS a 2 (g_at ha) rfl (g_ix_s h).1 d ?_
  intro H1 locs1 hP1 hD1 hS1
  rw [g_set (S := S) (S' := (g_u S.1 a i.toNatClampNeg (vp_nar .boolean v), S.2)) ha (fun a h => g_u_ne h) (fun _ _ => rfl) g_ev_ist] at hP1
  exact kk _ rfl (g_ix_s h).2 H1 locs1 ls hP1 hS1 hl
theorem g_aald (X : g_X N x cc own nL Ts rm ret) {a n : Nat} {i : Int32} (t : Nat) (C : String) (ht : (g_tys (g_cy x))[t]? = some (g_cy x t, .object C)) (ha : a < N ∧ K a = .inr (t, n, true)) (d : decode cc pc = .ok (.aaload, 1)) {β : Type} {z : β} {kd : g_Kd} {f : Nat → Option β} (h : g_ix i n (fun j => g_ld K N kd (S.2 a j) f) = some z)
    (kk : ∀ b, (b < N ∧ K b = kd) → f b = some z → g_V K N x nL Q S (pc + 1) lv (.ref (g_ad x b) :: rest)) : g_V K N x nL Q S pc lv (.int i :: .ref (g_ad x a) :: rest) := by
  obtain ⟨hi, h1⟩ := g_ix_s h
  obtain ⟨b, hb, hkb, hf⟩ := g_ld_s h1
  intro H locs ls hP hS hl
  refine va_aldq (cl := vwCl) X.1 X.2.1 X.2.2.2.2.2.1 hP a t (g_at ha) ht hi d ?_
  have e : va_rf ((S.2 a i.toNatClampNeg).map (g_ad x)) = .ref (g_ad x b) := by rw [hb]; rfl
  rw [e]
  exact kk b hkb hf H locs ls hP hS hl
theorem g_aaldA (X : g_X N x cc own nL Ts rm ret) {a n : Nat} {i : Int32} (ha : a < N ∧ K a = .inr (7, n, true)) (d : decode cc pc = .ok (.aaload, 1)) {β : Type} {z : β} {kd : g_Kd} {f : Nat → Option β} (h : g_ix i n (fun j => g_ld K N kd (S.2 a j) f) = some z)
    (kk : ∀ b, (b < N ∧ K b = kd) → f b = some z → g_V K N x nL Q S (pc + 1) lv (.ref (g_ad x b) :: rest)) : g_V K N x nL Q S pc lv (.int i :: .ref (g_ad x a) :: rest) := by
  obtain ⟨hi, h1⟩ := g_ix_s h
  obtain ⟨b, hb, hkb, hf⟩ := g_ld_s h1
  intro H locs ls hP hS hl
  have hlt : i.toNatClampNeg < n := Nat.not_le.mp fun q => hi (Or.inr q)
  have e : va_rf ((S.2 a i.toNatClampNeg).map (g_ad x)) = .ref (g_ad x b) := by rw [hb]; rfl
  refine W.aald (v := va_rf ((S.2 a i.toNatClampNeg).map (g_ad x))) (ty := .array .int) X.1 X.2.1 (hP a _ (g_at ha)) ((X.2.2.2.2.2.1.2 7 _ rfl).1 n (fun j => va_rf ((S.2 a j).map (g_ad x)))) rfl (fun q => by cases q) (by show ¬ (i < 0 ∨ (arrV _ _ _).slots.size ≤ _); rw [arrV_size]; exact hi) (by show (arrV _ _ _).slots[_]? = _; rw [arrV_read _ _ hlt]) rfl rfl d ?_
  rw [e]
  exact kk b hkb hf H locs ls hP hS hl
theorem g_aast (X : g_X N x cc own nL Ts rm ret) {a n b : Nat} {i : Int32} (t : Nat) {ci : Nat} {C : String} {T : u_T} {ty : Nat → FieldType} {n0 : Nat} {bs : List Bool} (hC : g_C ci C T ty n0) (ht : (g_tys (g_cy x))[t]? = some (g_cy x t, .object C)) (ha : a < N ∧ K a = .inr (t, n, true)) (hb : b < N ∧ K b = .inl (ci, bs)) (d : decode cc pc = .ok (.aastore, 1)) {β : Type} {z : β} {f : Nat → Option β} (h : g_ix i n f = some z)
    (kk : ∀ j, j = i.toNatClampNeg → f j = some z → g_V K N x nL Q (S.1, g_u S.2 a j (some b)) (pc + 1) lv rest) : g_V K N x nL Q S pc lv (.ref (g_ad x b) :: .int i :: .ref (g_ad x a) :: rest) := by
  intro H locs ls hP hS hl
  refine va_astq (cl := vwCl) (r := (C, T, n0)) X.1 X.2.1 X.2.2.2.2.2.1 hP (g_pw_D X.2.2.2.2.2.2.1) hS a t b ci (g_at ha) ht (g_at hb) hC.1 (g_ix_s h).1 d ?_
  intro H1 locs1 hP1 hD1 hS1
  rw [g_set (S := S) (S' := (S.1, g_u S.2 a i.toNatClampNeg (some b))) ha (fun _ _ => rfl) (fun a h => g_u_ne h) g_ev_ast] at hP1
  exact kk _ rfl (g_ix_s h).2 H1 locs1 ls hP1 hS1 hl
theorem g_alen (X : g_X N x cc own nL Ts rm ret) {a n t : Nat} {b : Bool} {ft : FieldType} (ht : (g_tys (g_cy x))[t]? = some (g_cy x t, ft)) (ha : a < N ∧ K a = .inr (t, n, b)) {v : Int32} (hv : Int32.ofNat n = v) (d : decode cc pc = .ok (.arraylength, 1))
    (kk : g_V K N x nL Q S (pc + 1) lv (.int v :: rest)) : g_V K N x nL Q S pc lv (.ref (g_ad x a) :: rest) := by
  intro H locs ls hP hS hl
  cases b
  · exact va_alen (cl := vwCl) X.1 X.2.1 X.2.2.2.2.2.1 hP a t (g_at ha) ht hv d (kk H locs ls hP hS hl)
  · exact va_alen (cl := vwCl) X.1 X.2.1 X.2.2.2.2.2.1 hP a t (g_at ha) ht hv d (kk H locs ls hP hS hl)
theorem g_iret (X : g_X N x cc own nL Ts rm (some .int)) {v : Int32} {z : Int32 × g_St} (h : some (v, S) = some z) (d : decode cc pc = .ok (.ireturn, 1)) : g_V K N x nL (g_qi K N x z) S pc lv [.int v] := by
  intro H locs ls hP hS hl
  have h := Option.some.inj h
  have hlocks := X.2.2.2.2.2.2.2.2.1
  exact W.iret (v := v) X.1 X.2.1 X.2.2.2.2.2.2.2.2.2.1 (fun t ht hW => ⟨⟨v, S, rfl, h, by show va_P _ _ _ t.heap; rw [ht]; exact hP⟩, hS.F ht⟩) hS.2.2 d
theorem g_lret (X : g_X N x cc own nL Ts rm (some .long)) {v : Int64} {z : Int64 × g_St} (h : some (v, S) = some z) (d : decode cc pc = .ok (.lreturn, 1)) : g_V K N x nL (g_ql K N x z) S pc lv [.long v] := by
  intro H locs ls hP hS hl
  have h := Option.some.inj h
  have hlocks := X.2.2.2.2.2.2.2.2.1
  exact W.lret (v := v) X.1 X.2.1 X.2.2.2.2.2.2.2.2.2.1 (fun t ht hW => ⟨⟨v, S, rfl, h, by show va_P _ _ _ t.heap; rw [ht]; exact hP⟩, hS.F ht⟩) hS.2.2 d
theorem g_zret (X : g_X N x cc own nL Ts rm (some .boolean)) {v : Int32} {z : Int32 × g_St} (h : g_zb v (some (v, S)) = some z) (d : decode cc pc = .ok (.ireturn, 1)) : g_V K N x nL (g_qi K N x z) S pc lv [.int v] := by
  intro H locs ls hP hS hl
  obtain ⟨hv, h⟩ := g_zb_s h
  have h := Option.some.inj h
  have hlocks := X.2.2.2.2.2.2.2.2.1
  exact W.zret (v := v) (ty := .boolean) X.1 X.2.1 X.2.2.2.2.2.2.2.2.2.1 (by rcases hv with rfl | rfl <;> rfl) (fun t ht hW => ⟨⟨v, S, rfl, h, by show va_P _ _ _ t.heap; rw [ht]; exact hP⟩, hS.F ht⟩) hS.2.2 d
theorem g_vret (X : g_X N x cc own nL Ts rm none) {z : Unit × g_St} (h : some ((), S) = some z) (d : decode cc pc = .ok (.return_, 1)) : g_V K N x nL (g_qv K N x z) S pc lv [] := by
  intro H locs ls hP hS hl
  have h := Option.some.inj h
  have hlocks := X.2.2.2.2.2.2.2.2.1
  exact W.vret X.1 X.2.1 X.2.2.2.2.2.2.2.2.2.1 (fun t ht hW => ⟨⟨S, rfl, h, by show va_P _ _ _ t.heap; rw [ht]; exact hP⟩, hS.F ht⟩) hS.2.2 d
theorem g_blind {K : Nat → g_Kd} {N : Nat} {D : va_G} {ad : Nat → Nat} {cy : Nat → ClassId} {zz : (Nat → Nat) × (Nat → Nat)} {av : List Value} {S : g_St} : FrameBlind (g_Pc K N D ad cy zz av S) := fun a U g mk q => ⟨q.1, q.2.1, va_K.moved (u := U) (U := U.calling g mk a) (Vm.Alike.refl U.vm) q.2.2.1, g_Z_blind q.2.2.2⟩
theorem g_callVi (X : g_X N x cc own nL Ts rm ret) {y : MethodName} {bytes : ByteArray} {maxL n index : Nat} {rt : Option FieldType} {ws : List Cond} {rm1 : Room} {b ci : Nat} {C : String} {T : u_T} {ty : Nat → FieldType} {n0 : Nat} {bs : List Bool} (hC : g_C ci C T ty n0) (hb : b < N ∧ K b = .inl (ci, bs)) (As : List Value) (hn : As.length = n) (cw : CallW rm (g_s x) (g_args x) own C index y bytes maxL rt ws rm1 0 0 n) (hr : (rest.map fun v => v.category).sum ≤ 8) (d : decode cc pc = .ok (.invokevirtual index, 3)) {β : Type} {z : β} {fv : Option (Int32 × g_St)} {f : Int32 → g_St → Option β} (h : g_bd fv f = some z)
    (hM : ∀ o, fv = some o → g_Mi (g_l x) K N (g_D x) (g_ad x) (g_cy x) (g_zz x) y ws rm1 (.ref (g_ad x b) :: As) S o)
    (kk : ∀ (r : Int32) (S1 : g_St), f r S1 = some z → g_V K N x nL Q S1 (pc + 3) lv (.int r :: rest)) : g_V K N x nL Q S pc lv (As.reverse ++ .ref (g_ad x b) :: rest) := by
  obtain ⟨r0, S0, hfv, hf⟩ := g_bd_s h
  intro H locs ls hP hS hl
  have hR := X.2.2.2.2.2.2.2.1
  refine va_calli (va_runV (As := As) (rest := rest) (index := index) (ws := ws) (rm := rm1) ⟨X.1, X.2.1, X.2.2.1, X.2.2.2.1, X.2.2.2.2.1⟩ (hM _ hfv) (by rw [hR]; exact cw) ⟨g_blind, va_recv X.2.2.2.2.2.1 hP hC.1 (g_at hb), fun U hU hW => ⟨rfl, by rw [hU]; exact hP, va_K.moved hW.alike X.2.2.2.2.2.1, g_Z_at X.2.2.2.2.2.2.2.2.2.2 hS hU hW⟩⟩ rfl hn hl.1 rfl (lv_room hr) d ⟨Nat.zero_le _, Nat.zero_le _⟩) hS (fun q _ h => h) (fun q h => h) (fun r u t H1 locs1 ht _ hp hB _ _ hS1 => ?_)
  cases hp
  rw [ht] at hB
  exact kk r0 S0 hf H1 locs1 ls hB hS1 hl
theorem g_callSi (X : g_X N x cc own nL Ts rm ret) {y : MethodName} {bytes : ByteArray} {maxL n index : Nat} {rt : Option FieldType} {ws : List Cond} {rm1 : Room}  (As : List Value) (hn : As.length = n) (cw : CallB rm (g_s x) (g_args x) own index y bytes maxL rt ws rm1 0 0 n ∧ (Cond.static y).before (g_args x) (g_s x) = true) (hr : (rest.map fun v => v.category).sum ≤ 8) (d : decode cc pc = .ok (.invokestatic index, 3)) {β : Type} {z : β} {fv : Option (Int32 × g_St)} {f : Int32 → g_St → Option β} (h : g_bd fv f = some z)
    (hM : ∀ o, fv = some o → g_Mi (g_l x) K N (g_D x) (g_ad x) (g_cy x) (g_zz x) y ws rm1 As S o)
    (kk : ∀ (r : Int32) (S1 : g_St), f r S1 = some z → g_V K N x nL Q S1 (pc + 3) lv (.int r :: rest)) : g_V K N x nL Q S pc lv (As.reverse ++ rest) := by
  obtain ⟨r0, S0, hfv, hf⟩ := g_bd_s h
  intro H locs ls hP hS hl
  have hR := X.2.2.2.2.2.2.2.1
  refine va_calli (va_runS (As := As) (rest := rest) (index := index) (ws := ws) (rm := rm1) ⟨X.1, X.2.1, X.2.2.1, X.2.2.2.1, X.2.2.2.2.1⟩ (hM _ hfv) (by rw [hR]; exact cw) ⟨g_blind, fun U hU hW => ⟨rfl, by rw [hU]; exact hP, va_K.moved hW.alike X.2.2.2.2.2.1, g_Z_at X.2.2.2.2.2.2.2.2.2.2 hS hU hW⟩⟩ rfl hn hl.1 rfl (lv_room hr) d ⟨Nat.zero_le _, Nat.zero_le _⟩) hS (fun q _ h => h) (fun q h => h) (fun r u t H1 locs1 ht _ hp hB _ _ hS1 => ?_)
  cases hp
  rw [ht] at hB
  exact kk r0 S0 hf H1 locs1 ls hB hS1 hl
theorem g_callVl (X : g_X N x cc own nL Ts rm ret) {y : MethodName} {bytes : ByteArray} {maxL n index : Nat} {rt : Option FieldType} {ws : List Cond} {rm1 : Room} {b ci : Nat} {C : String} {T : u_T} {ty : Nat → FieldType} {n0 : Nat} {bs : List Bool} (hC : g_C ci C T ty n0) (hb : b < N ∧ K b = .inl (ci, bs)) (As : List Value) (hn : As.length = n) (cw : CallW rm (g_s x) (g_args x) own C index y bytes maxL rt ws rm1 0 0 n) (hr : (rest.map fun v => v.category).sum ≤ 8) (d : decode cc pc = .ok (.invokevirtual index, 3)) {β : Type} {z : β} {fv : Option (Int64 × g_St)} {f : Int64 → g_St → Option β} (h : g_bd fv f = some z)
    (hM : ∀ o, fv = some o → g_Ml (g_l x) K N (g_D x) (g_ad x) (g_cy x) (g_zz x) y ws rm1 (.ref (g_ad x b) :: As) S o)
    (kk : ∀ (r : Int64) (S1 : g_St), f r S1 = some z → g_V K N x nL Q S1 (pc + 3) lv (.long r :: rest)) : g_V K N x nL Q S pc lv (As.reverse ++ .ref (g_ad x b) :: rest) := by
  obtain ⟨r0, S0, hfv, hf⟩ := g_bd_s h
  intro H locs ls hP hS hl
  have hR := X.2.2.2.2.2.2.2.1
  refine va_calll (va_runV (As := As) (rest := rest) (index := index) (ws := ws) (rm := rm1) ⟨X.1, X.2.1, X.2.2.1, X.2.2.2.1, X.2.2.2.2.1⟩ (hM _ hfv) (by rw [hR]; exact cw) ⟨g_blind, va_recv X.2.2.2.2.2.1 hP hC.1 (g_at hb), fun U hU hW => ⟨rfl, by rw [hU]; exact hP, va_K.moved hW.alike X.2.2.2.2.2.1, g_Z_at X.2.2.2.2.2.2.2.2.2.2 hS hU hW⟩⟩ rfl hn hl.1 rfl (lv_room hr) d ⟨Nat.zero_le _, Nat.zero_le _⟩) hS (fun q _ h => h) (fun q h => h) (fun r u t H1 locs1 ht _ hp hB _ _ hS1 => ?_)
  cases hp
  rw [ht] at hB
  exact kk r0 S0 hf H1 locs1 ls hB hS1 hl
theorem g_callSl (X : g_X N x cc own nL Ts rm ret) {y : MethodName} {bytes : ByteArray} {maxL n index : Nat} {rt : Option FieldType} {ws : List Cond} {rm1 : Room}  (As : List Value) (hn : As.length = n) (cw : CallB rm (g_s x) (g_args x) own index y bytes maxL rt ws rm1 0 0 n ∧ (Cond.static y).before (g_args x) (g_s x) = true) (hr : (rest.map fun v => v.category).sum ≤ 8) (d : decode cc pc = .ok (.invokestatic index, 3)) {β : Type} {z : β} {fv : Option (Int64 × g_St)} {f : Int64 → g_St → Option β} (h : g_bd fv f = some z)
    (hM : ∀ o, fv = some o → g_Ml (g_l x) K N (g_D x) (g_ad x) (g_cy x) (g_zz x) y ws rm1 As S o)
    (kk : ∀ (r : Int64) (S1 : g_St), f r S1 = some z → g_V K N x nL Q S1 (pc + 3) lv (.long r :: rest)) : g_V K N x nL Q S pc lv (As.reverse ++ rest) := by
  obtain ⟨r0, S0, hfv, hf⟩ := g_bd_s h
  intro H locs ls hP hS hl
  have hR := X.2.2.2.2.2.2.2.1
  refine va_calll (va_runS (As := As) (rest := rest) (index := index) (ws := ws) (rm := rm1) ⟨X.1, X.2.1, X.2.2.1, X.2.2.2.1, X.2.2.2.2.1⟩ (hM _ hfv) (by rw [hR]; exact cw) ⟨g_blind, fun U hU hW => ⟨rfl, by rw [hU]; exact hP, va_K.moved hW.alike X.2.2.2.2.2.1, g_Z_at X.2.2.2.2.2.2.2.2.2.2 hS hU hW⟩⟩ rfl hn hl.1 rfl (lv_room hr) d ⟨Nat.zero_le _, Nat.zero_le _⟩) hS (fun q _ h => h) (fun q h => h) (fun r u t H1 locs1 ht _ hp hB _ _ hS1 => ?_)
  cases hp
  rw [ht] at hB
  exact kk r0 S0 hf H1 locs1 ls hB hS1 hl
theorem g_callVv (X : g_X N x cc own nL Ts rm ret) {y : MethodName} {bytes : ByteArray} {maxL n index : Nat} {rt : Option FieldType} {ws : List Cond} {rm1 : Room} {b ci : Nat} {C : String} {T : u_T} {ty : Nat → FieldType} {n0 : Nat} {bs : List Bool} (hC : g_C ci C T ty n0) (hb : b < N ∧ K b = .inl (ci, bs)) (As : List Value) (hn : As.length = n) (cw : CallW rm (g_s x) (g_args x) own C index y bytes maxL rt ws rm1 0 0 n) (hr : (rest.map fun v => v.category).sum ≤ 8) (d : decode cc pc = .ok (.invokevirtual index, 3)) {β : Type} {z : β} {fv : Option (Unit × g_St)} {f : Unit → g_St → Option β} (h : g_bd fv f = some z)
    (hM : ∀ o, fv = some o → g_Mv (g_l x) K N (g_D x) (g_ad x) (g_cy x) (g_zz x) y ws rm1 (.ref (g_ad x b) :: As) S o)
    (kk : ∀ (r : Unit) (S1 : g_St), f r S1 = some z → g_V K N x nL Q S1 (pc + 3) lv (rest)) : g_V K N x nL Q S pc lv (As.reverse ++ .ref (g_ad x b) :: rest) := by
  obtain ⟨r0, S0, hfv, hf⟩ := g_bd_s h
  intro H locs ls hP hS hl
  have hR := X.2.2.2.2.2.2.2.1
  refine va_callv (va_runV (As := As) (rest := rest) (index := index) (ws := ws) (rm := rm1) ⟨X.1, X.2.1, X.2.2.1, X.2.2.2.1, X.2.2.2.2.1⟩ (hM _ hfv) (by rw [hR]; exact cw) ⟨g_blind, va_recv X.2.2.2.2.2.1 hP hC.1 (g_at hb), fun U hU hW => ⟨rfl, by rw [hU]; exact hP, va_K.moved hW.alike X.2.2.2.2.2.1, g_Z_at X.2.2.2.2.2.2.2.2.2.2 hS hU hW⟩⟩ rfl hn hl.1 rfl (lv_room hr) d ⟨Nat.zero_le _, Nat.zero_le _⟩) hS (fun q _ h => h) (fun q h => h) (fun u t H1 locs1 ht _ hp hB _ _ hS1 => ?_)
  cases hp
  rw [ht] at hB
  exact kk () S0 hf H1 locs1 ls hB hS1 hl
theorem g_callSv (X : g_X N x cc own nL Ts rm ret) {y : MethodName} {bytes : ByteArray} {maxL n index : Nat} {rt : Option FieldType} {ws : List Cond} {rm1 : Room}  (As : List Value) (hn : As.length = n) (cw : CallB rm (g_s x) (g_args x) own index y bytes maxL rt ws rm1 0 0 n ∧ (Cond.static y).before (g_args x) (g_s x) = true) (hr : (rest.map fun v => v.category).sum ≤ 8) (d : decode cc pc = .ok (.invokestatic index, 3)) {β : Type} {z : β} {fv : Option (Unit × g_St)} {f : Unit → g_St → Option β} (h : g_bd fv f = some z)
    (hM : ∀ o, fv = some o → g_Mv (g_l x) K N (g_D x) (g_ad x) (g_cy x) (g_zz x) y ws rm1 As S o)
    (kk : ∀ (r : Unit) (S1 : g_St), f r S1 = some z → g_V K N x nL Q S1 (pc + 3) lv (rest)) : g_V K N x nL Q S pc lv (As.reverse ++ rest) := by
  obtain ⟨r0, S0, hfv, hf⟩ := g_bd_s h
  intro H locs ls hP hS hl
  have hR := X.2.2.2.2.2.2.2.1
  refine va_callv (va_runS (As := As) (rest := rest) (index := index) (ws := ws) (rm := rm1) ⟨X.1, X.2.1, X.2.2.1, X.2.2.2.1, X.2.2.2.2.1⟩ (hM _ hfv) (by rw [hR]; exact cw) ⟨g_blind, fun U hU hW => ⟨rfl, by rw [hU]; exact hP, va_K.moved hW.alike X.2.2.2.2.2.1, g_Z_at X.2.2.2.2.2.2.2.2.2.2 hS hU hW⟩⟩ rfl hn hl.1 rfl (lv_room hr) d ⟨Nat.zero_le _, Nat.zero_le _⟩) hS (fun q _ h => h) (fun q h => h) (fun u t H1 locs1 ht _ hp hB _ _ hS1 => ?_)
  cases hp
  rw [ht] at hB
  exact kk () S0 hf H1 locs1 ls hB hS1 hl
theorem g_mmax (X : g_X N x cc own nL Ts rm ret) {index : Nat} {a b : Int32} (w1 : Cond.methodLink own index Lib.Math.max.name ∈ Ts) (w2 : Cond.static Lib.Math.max.name ∈ Ts) (w3 : Cond.initialized "java/lang/Math" ∈ Ts) (w4 : Cond.code Lib.Math.max.name Lib.Math.max.code 2 (some .int) ∈ Ts) (hf : 1 ≤ rm.frames) (hr : (rest.map fun v => v.category).sum + 13 ≤ rm.locals) (d : decode cc pc = .ok (.invokestatic index, 3))
    (kk : g_V K N x nL Q S (pc + 3) lv (.int (if a < b then b else a) :: rest)) : g_V K N x nL Q S pc lv (.int b :: .int a :: rest) := by
  intro H locs ls hP hS hl
  have hR := X.2.2.2.2.2.2.2.1
  exact va_mmax X.1 X.2.1 (by rw [X.2.2.1]; exact hl.1.symm) X.2.2.2.1 (X.2.2.2.2.1 _ w1) (X.2.2.2.2.1 _ w2) (X.2.2.2.2.1 _ w3) (X.2.2.2.2.1 _ w4) (by rw [hR]; exact hf) (by rw [hR]; exact hr) (Nat.zero_le _) (Nat.zero_le _) d (kk H locs ls hP hS hl)
theorem g_mmin (X : g_X N x cc own nL Ts rm ret) {index : Nat} {a b : Int32} (w1 : Cond.methodLink own index Lib.Math.min.name ∈ Ts) (w2 : Cond.static Lib.Math.min.name ∈ Ts) (w3 : Cond.initialized "java/lang/Math" ∈ Ts) (w4 : Cond.code Lib.Math.min.name Lib.Math.min.code 2 (some .int) ∈ Ts) (hf : 1 ≤ rm.frames) (hr : (rest.map fun v => v.category).sum + 13 ≤ rm.locals) (d : decode cc pc = .ok (.invokestatic index, 3))
    (kk : g_V K N x nL Q S (pc + 3) lv (.int (if b < a then b else a) :: rest)) : g_V K N x nL Q S pc lv (.int b :: .int a :: rest) := by
  intro H locs ls hP hS hl
  have hR := X.2.2.2.2.2.2.2.1
  exact va_mmin X.1 X.2.1 (by rw [X.2.2.1]; exact hl.1.symm) X.2.2.2.1 (X.2.2.2.2.1 _ w1) (X.2.2.2.2.1 _ w2) (X.2.2.2.2.1 _ w3) (X.2.2.2.2.1 _ w4) (by rw [hR]; exact hf) (by rw [hR]; exact hr) (Nat.zero_le _) (Nat.zero_le _) d (kk H locs ls hP hS hl)
theorem g_mmaxl (X : g_X N x cc own nL Ts rm ret) {index : Nat} {a b : Int64} (w1 : Cond.methodLink own index Lib.MathLoose.max_long.x ∈ Ts) (w2 : Cond.static Lib.MathLoose.max_long.x ∈ Ts) (w3 : Cond.initialized "java/lang/Math" ∈ Ts) (w4 : Cond.code Lib.MathLoose.max_long.x Lib.MathLoose.max_long.code 4 (some .long) ∈ Ts) (hf : 1 ≤ rm.frames) (hr : (rest.map fun v => v.category).sum + 15 ≤ rm.locals) (d : decode cc pc = .ok (.invokestatic index, 3))
    (kk : g_V K N x nL Q S (pc + 3) lv (.long (if b < a then a else b) :: rest)) : g_V K N x nL Q S pc lv (.long b :: .long a :: rest) := by
  intro H locs ls hP hS hl
  have hR := X.2.2.2.2.2.2.2.1
  exact va_mmax_long X.1 X.2.1 (by rw [X.2.2.1]; exact hl.1.symm) X.2.2.2.1 (X.2.2.2.2.1 _ w1) (X.2.2.2.2.1 _ w2) (X.2.2.2.2.1 _ w3) (X.2.2.2.2.1 _ w4) (by rw [hR]; exact hf) (by rw [hR]; exact hr) (Nat.zero_le _) (Nat.zero_le _) d (kk H locs ls hP hS hl)
end GV
theorem g_ofi {l : Launch} {K : Nat → g_Kd} {N : Nat} {D : va_G} {ad : Nat → Nat} {cy : Nat → ClassId} {zz : (Nat → Nat) × (Nat → Nat)} (hinj : ∀ i j, i < N → j < N → ad i = ad j → i = j) {y : MethodName} {ws ws' : List Cond} {rm : Room} {cc : ByteArray} {maxL : Nat} {ret : Option FieldType} {av : List Value} {lv : List (Nat × Value)} {S : g_St} {o : Int32 × g_St} (hy : plainName y.cls = true) (hw : ws = Cond.code y cc maxL ret :: ws') (hle : (lg_sl av).length ≤ maxL) (hlv : lv_args 0 av = lv)
    (body : ∀ x : g_CX, g_X N x cc y.cls maxL ws rm ret → g_l x = l → g_D x = D → g_ad x = ad → g_cy x = cy → g_zz x = zz → g_V K N x maxL (g_qi K N x o) S 0 lv []) : g_Mi l K N D ad cy zz y ws rm av S o := by
  refine Met.ofW (cc := cc) (maxL := maxL) (ret := ret) hy hw ?_
  intro p e s m args below meth c s₁ B hml hv
  obtain ⟨rfl, hP, hK, hZ⟩ := hv
  have hts := atoms_spec (ws := ws) B.pre
  have hown := findClass_of_methodNamed B.named
  have hl := lv_entry av (n := maxL) hle
  rw [lg_entry_eq]
  generalize (lg_sl av ++ List.replicate (maxL - (lg_sl av).length) Slot.unset).toArray = ls at hl ⊢
  rw [hlv] at hl
  exact body (p, l, e, (headSpec ws rm).room, s, m, av.toArray, below, meth, c, D, ad, cy, zz) ⟨B.exec, B.bytes, hml, hown, hts, hK, hinj, rfl, B.notSynchronized, B.returns, hZ⟩ rfl rfl rfl rfl rfl s.heap [] ls hP va_S.rf hl
theorem g_ofl {l : Launch} {K : Nat → g_Kd} {N : Nat} {D : va_G} {ad : Nat → Nat} {cy : Nat → ClassId} {zz : (Nat → Nat) × (Nat → Nat)} (hinj : ∀ i j, i < N → j < N → ad i = ad j → i = j) {y : MethodName} {ws ws' : List Cond} {rm : Room} {cc : ByteArray} {maxL : Nat} {ret : Option FieldType} {av : List Value} {lv : List (Nat × Value)} {S : g_St} {o : Int64 × g_St} (hy : plainName y.cls = true) (hw : ws = Cond.code y cc maxL ret :: ws') (hle : (lg_sl av).length ≤ maxL) (hlv : lv_args 0 av = lv)
    (body : ∀ x : g_CX, g_X N x cc y.cls maxL ws rm ret → g_l x = l → g_D x = D → g_ad x = ad → g_cy x = cy → g_zz x = zz → g_V K N x maxL (g_ql K N x o) S 0 lv []) : g_Ml l K N D ad cy zz y ws rm av S o := by
  refine Met.ofW (cc := cc) (maxL := maxL) (ret := ret) hy hw ?_
  intro p e s m args below meth c s₁ B hml hv
  obtain ⟨rfl, hP, hK, hZ⟩ := hv
  have hts := atoms_spec (ws := ws) B.pre
  have hown := findClass_of_methodNamed B.named
  have hl := lv_entry av (n := maxL) hle
  rw [lg_entry_eq]
  generalize (lg_sl av ++ List.replicate (maxL - (lg_sl av).length) Slot.unset).toArray = ls at hl ⊢
  rw [hlv] at hl
  exact body (p, l, e, (headSpec ws rm).room, s, m, av.toArray, below, meth, c, D, ad, cy, zz) ⟨B.exec, B.bytes, hml, hown, hts, hK, hinj, rfl, B.notSynchronized, B.returns, hZ⟩ rfl rfl rfl rfl rfl s.heap [] ls hP va_S.rf hl
theorem g_ofv {l : Launch} {K : Nat → g_Kd} {N : Nat} {D : va_G} {ad : Nat → Nat} {cy : Nat → ClassId} {zz : (Nat → Nat) × (Nat → Nat)} (hinj : ∀ i j, i < N → j < N → ad i = ad j → i = j) {y : MethodName} {ws ws' : List Cond} {rm : Room} {cc : ByteArray} {maxL : Nat} {ret : Option FieldType} {av : List Value} {lv : List (Nat × Value)} {S : g_St} {o : Unit × g_St} (hy : plainName y.cls = true) (hw : ws = Cond.code y cc maxL ret :: ws') (hle : (lg_sl av).length ≤ maxL) (hlv : lv_args 0 av = lv)
    (body : ∀ x : g_CX, g_X N x cc y.cls maxL ws rm ret → g_l x = l → g_D x = D → g_ad x = ad → g_cy x = cy → g_zz x = zz → g_V K N x maxL (g_qv K N x o) S 0 lv []) : g_Mv l K N D ad cy zz y ws rm av S o := by
  refine Met.ofW (cc := cc) (maxL := maxL) (ret := ret) hy hw ?_
  intro p e s m args below meth c s₁ B hml hv
  obtain ⟨rfl, hP, hK, hZ⟩ := hv
  have hts := atoms_spec (ws := ws) B.pre
  have hown := findClass_of_methodNamed B.named
  have hl := lv_entry av (n := maxL) hle
  rw [lg_entry_eq]
  generalize (lg_sl av ++ List.replicate (maxL - (lg_sl av).length) Slot.unset).toArray = ls at hl ⊢
  rw [hlv] at hl
  exact body (p, l, e, (headSpec ws rm).room, s, m, av.toArray, below, meth, c, D, ad, cy, zz) ⟨B.exec, B.bytes, hml, hown, hts, hK, hinj, rfl, B.notSynchronized, B.returns, hZ⟩ rfl rfl rfl rfl rfl s.heap [] ls hP va_S.rf hl
theorem g_cX0 : g_C 0 RX0 TX0 tyX0 3 := ⟨rfl, tyX0_ok, nmX0⟩
theorem g_cX1 : g_C 1 RX1 TX1 tyX1 6 := ⟨rfl, tyX1_ok, nmX1⟩
theorem g_cX2 : g_C 2 RX2 TX2 tyX2 7 := ⟨rfl, tyX2_ok, nmX2⟩
theorem g_cX3 : g_C 3 RX3 TX3 tyX3 3 := ⟨rfl, tyX3_ok, nmX3⟩
theorem g_cX4 : g_C 4 RX4 TX4 tyX4 4 := ⟨rfl, tyX4_ok, nmX4⟩
theorem g_cX5 : g_C 5 RX5 TX5 tyX5 5 := ⟨rfl, tyX5_ok, nmX5⟩
theorem g_cX6 : g_C 6 RX6 TX6 tyX6 3 := ⟨rfl, tyX6_ok, nmX6⟩
theorem g_cX7 : g_C 7 RX7 TX7 tyX7 11 := ⟨rfl, tyX7_ok, nmX7⟩
theorem g_cX8 : g_C 8 RX8 TX8 tyX8 27 := ⟨rfl, tyX8_ok, nmX8⟩
abbrev g_kX0 : g_Kd := .inl (0, [false, false, false])
abbrev g_kX1 : g_Kd := .inl (1, [false, false, false, false, false, false])
abbrev g_kX2 : g_Kd := .inl (2, [true, true, false, false, false, false, false])
abbrev g_kX3 : g_Kd := .inl (3, [true, true, false])
abbrev g_kX4 : g_Kd := .inl (4, [true, false, false, false])
abbrev g_kX5 : g_Kd := .inl (5, [true, false, false, false, false])
abbrev g_kX6 : g_Kd := .inl (6, [true, true, false])
abbrev g_kX7 : g_Kd := .inl (7, [true, true, true, true, true, true, true, true, true, true, false])
abbrev g_kX8 : g_Kd := .inl (8, [true, true, true, false, false, false, false, false, false, false, false, true, true, false, false, false, false, false, true, true, false, true, true, true, true, true, false])
/-- what each object of the class is: 0 itself, 1 images, 2 kept, 3 tape, 4 its bytes, 5 teller, 6 seen, 7, 8 its rows, 9 sheets, 10 .. 13 the sheets, 14 .. 17 their cells, 18 letByRate, 19 letByTick, 20 .. 29 the rows of letByRate; from 30 on four halls (now, trial, images 0 and 1) of 15 each: the hall, its doors' row, its crowds' row, 4 doors, 8 crowds -/
def g_KCh (j : Nat) : g_Kd := if j = 0 then g_kX2 else if j = 1 then .inr (3, 4, true) else if j = 2 then .inr (4, 8, true) else if j < 7 then g_kX1 else g_kX0
def g_KC (i : Nat) : g_Kd := if 30 ≤ i then g_KCh ((i - 30) % 15) else if i = 0 then g_kX7 else if i = 1 then .inr (5, 2, true) else if i = 2 then .inr (2, 2, false) else if i = 3 then g_kX5 else if i = 4 then .inr (1, 160, false) else if i = 5 then g_kX6 else if i = 6 then g_kX3 else if i < 9 then .inr (0, 6, false) else if i = 9 then .inr (6, 4, true) else if i < 14 then g_kX4 else if i < 18 then .inr (0, 40, false) else if i = 18 then .inr (7, 10, true) else .inr (0, 41, false)
/-- the reference: 0 itself, 1 state, 2 readPage, 3 tape, 4 ends, 5 letters, 6 turnedBy, 7 seen, 8 letBy, 9 isKept, 10 lanes, 11 lengths, 12 cells -/
def g_KM (i : Nat) : g_Kd := if i = 0 then g_kX8 else if i = 1 then .inr (0, 270, false) else if i = 2 then .inr (0, 45, false) else if i = 3 then .inr (0, 160, false) else if i = 4 then .inr (0, 6, false) else if i = 5 then .inr (0, 24, false) else if i = 6 then .inr (0, 4, false) else if i = 7 then .inr (0, 12, false) else if i = 8 then .inr (0, 410, false) else if i = 9 then .inr (2, 2, false) else if i < 12 then .inr (0, 4, false) else .inr (0, 160, false)
end
section
abbrev rm_X0_make : Room := { frames := 0, cells := 0, slots := 0, locals := 0 }
theorem hd_X0_make : yX0_make.cls = RX0 ∧ yX0_make.cls ≠ "java/lang/invoke/MethodHandle" ∧ yX0_make.cls ≠ "java/lang/invoke/VarHandle" ∧ (parseMethodDescriptor yX0_make.desc).map (fun d => d.parameters.length) = some 3 := by decide +kernel
theorem w_X0_make_7 : Cond.fieldLink RX0 7 "TokenDoors$Crowd" "start" "I" ∈ wsX0_make := by decide +kernel
theorem w_X0_make_inX0 : ∀ w ∈ wsX00, w ∈ wsX0_make := by decide +kernel
theorem w_X0_make_13 : Cond.fieldLink RX0 13 "TokenDoors$Crowd" "many" "I" ∈ wsX0_make := by decide +kernel
theorem w_X0_make_16 : Cond.fieldLink RX0 16 "TokenDoors$Crowd" "every" "I" ∈ wsX0_make := by decide +kernel
def f_X0_make (fu : Nat) (o : Nat) (p0 : Int32) (p1 : Int32) (p2 : Int32) (S : g_St) : Option (Unit × g_St) :=
  some ((), (g_u (g_u (g_u S.1 o 0 p0) o 1 p1) o 2 p2, S.2))
set_option maxRecDepth 100000 in
set_option maxHeartbeats 4000000 in
theorem ct_X0_make {l : Launch} {D : va_G} {ad : Nat → Nat} {cy : Nat → ClassId} {zz : (Nat → Nat) × (Nat → Nat)} (hinj : ∀ i j, i < 90 → j < 90 → ad i = ad j → i = j) {fu : Nat} (o : Nat) (p0 : Int32) (p1 : Int32) (p2 : Int32) (hk_o : o < 90 ∧ g_KC o = g_kX0) {S : g_St} (z : Unit × g_St) (h : f_X0_make fu o p0 p1 p2 S = some z) : g_Mv l g_KC 90 D ad cy zz yX0_make wsX0_make rm_X0_make [.ref (ad o), .int (p0), .int (p1), .int (p2)] S z := by
  refine g_ofv hinj (cc := cX0_make) (maxL := 4) (ret := none) (lv := [(0, .ref (ad o)), (1, .int (p0)), (2, .int (p1)), (3, .int (p2))]) (by decide) rfl (Nat.le_of_ble_eq_true rfl) rfl ?_
  intro x X hl hD ha hy hz
  subst hl hD ha hy hz
  unfold f_X0_make at h
  refine g_aload_n X dX0_make_0 0 rfl ?_
  refine g_iload_n X dX0_make_1 1 rfl ?_
  refine g_puti X g_cX0 w_X0_make_inX0 0 (by decide) w_X0_make_7 hk_o rfl rfl (t := .int) (by decide +kernel) rfl rfl dX0_make_2 ?_
  refine g_aload_n X dX0_make_5 0 rfl ?_
  refine g_iload_n X dX0_make_6 2 rfl ?_
  refine g_puti X g_cX0 w_X0_make_inX0 1 (by decide) w_X0_make_13 hk_o rfl rfl (t := .int) (by decide +kernel) rfl rfl dX0_make_7 ?_
  refine g_aload_n X dX0_make_10 0 rfl ?_
  refine g_iload_n X dX0_make_11 3 rfl ?_
  refine g_puti X g_cX0 w_X0_make_inX0 2 (by decide) w_X0_make_16 hk_o rfl rfl (t := .int) (by decide +kernel) rfl rfl dX0_make_12 ?_
  exact g_vret X h dX0_make_15
abbrev rm_X0_comesAt : Room := { frames := 0, cells := 0, slots := 0, locals := 0 }
theorem hd_X0_comesAt : yX0_comesAt.cls = RX0 ∧ yX0_comesAt.cls ≠ "java/lang/invoke/MethodHandle" ∧ yX0_comesAt.cls ≠ "java/lang/invoke/VarHandle" ∧ (parseMethodDescriptor yX0_comesAt.desc).map (fun d => d.parameters.length) = some 1 := by decide +kernel
theorem w_X0_comesAt_7 : Cond.fieldLink RX0 7 "TokenDoors$Crowd" "start" "I" ∈ wsX0_comesAt := by decide +kernel
theorem w_X0_comesAt_inX0 : ∀ w ∈ wsX00, w ∈ wsX0_comesAt := by decide +kernel
theorem w_X0_comesAt_16 : Cond.fieldLink RX0 16 "TokenDoors$Crowd" "every" "I" ∈ wsX0_comesAt := by decide +kernel
def f_X0_comesAt (fu : Nat) (o : Nat) (p0 : Int32) (S : g_St) : Option (Int32 × g_St) :=
  if p0 = (S.1 o 0) then (g_zb (1 : Int32) (some ((1 : Int32), S))) else (if (S.1 o 2) ≤ 0 then (g_zb (0 : Int32) (some ((0 : Int32), S))) else (if p0 ≤ (S.1 o 0) then (g_zb (0 : Int32) (some ((0 : Int32), S))) else (g_nz (S.1 o 2) (if ((p0 - (S.1 o 0)) - (p0 - (S.1 o 0)) / (S.1 o 2) * (S.1 o 2)) = 0 then (g_zb (1 : Int32) (some ((1 : Int32), S))) else (g_zb (0 : Int32) (some ((0 : Int32), S)))))))
set_option maxRecDepth 100000 in
set_option maxHeartbeats 4000000 in
theorem ct_X0_comesAt {l : Launch} {D : va_G} {ad : Nat → Nat} {cy : Nat → ClassId} {zz : (Nat → Nat) × (Nat → Nat)} (hinj : ∀ i j, i < 90 → j < 90 → ad i = ad j → i = j) {fu : Nat} (o : Nat) (p0 : Int32) (hk_o : o < 90 ∧ g_KC o = g_kX0) {S : g_St} (z : Int32 × g_St) (h : f_X0_comesAt fu o p0 S = some z) : g_Mi l g_KC 90 D ad cy zz yX0_comesAt wsX0_comesAt rm_X0_comesAt [.ref (ad o), .int (p0)] S z := by
  refine g_ofi hinj (cc := cX0_comesAt) (maxL := 2) (ret := (some .boolean)) (lv := [(0, .ref (ad o)), (1, .int (p0))]) (by decide) rfl (Nat.le_of_ble_eq_true rfl) rfl ?_
  intro x X hl hD ha hy hz
  subst hl hD ha hy hz
  unfold f_X0_comesAt at h
  refine g_iload_n X dX0_comesAt_0 1 rfl ?_
  refine g_aload_n X dX0_comesAt_1 0 rfl ?_
  refine g_geti X g_cX0 w_X0_comesAt_inX0 0 (by decide) w_X0_comesAt_7 hk_o rfl dX0_comesAt_2 ?_
  refine g_icmp_ne X 10 dX0_comesAt_5 (by decide) h (fun c_5 h => ?_) (fun c_5 h => ?_)
  · skip
    refine g_aload_n X dX0_comesAt_10 0 rfl ?_
    refine g_geti X g_cX0 w_X0_comesAt_inX0 2 (by decide) w_X0_comesAt_16 hk_o rfl dX0_comesAt_11 ?_
    refine g_if_le X 43 dX0_comesAt_14 (by decide) h (fun c_14 h => ?_) (fun c_14 h => ?_)
    · skip
      refine g_iconst X (v := 0) dX0_comesAt_43 (by decide) ?_
      exact g_zret X h dX0_comesAt_44
    · skip
      refine g_iload_n X dX0_comesAt_17 1 rfl ?_
      refine g_aload_n X dX0_comesAt_18 0 rfl ?_
      refine g_geti X g_cX0 w_X0_comesAt_inX0 0 (by decide) w_X0_comesAt_7 hk_o rfl dX0_comesAt_19 ?_
      refine g_icmp_le X 43 dX0_comesAt_22 (by decide) h (fun c_22 h => ?_) (fun c_22 h => ?_)
      · skip
        refine g_iconst X (v := 0) dX0_comesAt_43 (by decide) ?_
        exact g_zret X h dX0_comesAt_44
      · skip
        refine g_iload_n X dX0_comesAt_25 1 rfl ?_
        refine g_aload_n X dX0_comesAt_26 0 rfl ?_
        refine g_geti X g_cX0 w_X0_comesAt_inX0 0 (by decide) w_X0_comesAt_7 hk_o rfl dX0_comesAt_27 ?_
        refine g_isub X dX0_comesAt_30 ?_
        refine g_aload_n X dX0_comesAt_31 0 rfl ?_
        refine g_geti X g_cX0 w_X0_comesAt_inX0 2 (by decide) w_X0_comesAt_16 hk_o rfl dX0_comesAt_32 ?_
        refine g_irem X dX0_comesAt_35 h (fun h => ?_)
        refine g_if_ne X 43 dX0_comesAt_36 (by decide) h (fun c_36 h => ?_) (fun c_36 h => ?_)
        · skip
          refine g_iconst X (v := 0) dX0_comesAt_43 (by decide) ?_
          exact g_zret X h dX0_comesAt_44
        · skip
          refine g_iconst X (v := 1) dX0_comesAt_39 (by decide) ?_
          refine g_goto X 44 dX0_comesAt_40 (by decide) ?_
          exact g_zret X h dX0_comesAt_44
  · skip
    refine g_iconst X (v := 1) dX0_comesAt_8 (by decide) ?_
    exact g_zret X h dX0_comesAt_9
abbrev rm_X1_make : Room := { frames := 0, cells := 0, slots := 0, locals := 0 }
theorem hd_X1_make : yX1_make.cls = RX1 ∧ yX1_make.cls ≠ "java/lang/invoke/MethodHandle" ∧ yX1_make.cls ≠ "java/lang/invoke/VarHandle" ∧ (parseMethodDescriptor yX1_make.desc).map (fun d => d.parameters.length) = some 3 := by decide +kernel
theorem w_X1_make_9 : Cond.fieldLink RX1 9 "TokenDoors$Door" "kind" "I" ∈ wsX1_make := by decide +kernel
theorem w_X1_make_inX1 : ∀ w ∈ wsX10, w ∈ wsX1_make := by decide +kernel
theorem w_X1_make_15 : Cond.fieldLink RX1 15 "TokenDoors$Door" "depth" "I" ∈ wsX1_make := by decide +kernel
theorem w_X1_make_18 : Cond.fieldLink RX1 18 "TokenDoors$Door" "rate" "I" ∈ wsX1_make := by decide +kernel
theorem w_X1_make_21 : Cond.fieldLink RX1 21 "TokenDoors$Door" "holds" "I" ∈ wsX1_make := by decide +kernel
def f_X1_make (fu : Nat) (o : Nat) (p0 : Int32) (p1 : Int32) (p2 : Int32) (S : g_St) : Option (Unit × g_St) :=
  if p0 = 0 then (some ((), (g_u (g_u (g_u (g_u S.1 o 0 p0) o 1 p1) o 2 p2) o 3 p1, S.2))) else (some ((), (g_u (g_u (g_u (g_u S.1 o 0 p0) o 1 p1) o 2 p2) o 3 (0 : Int32), S.2)))
set_option maxRecDepth 100000 in
set_option maxHeartbeats 4000000 in
theorem ct_X1_make {l : Launch} {D : va_G} {ad : Nat → Nat} {cy : Nat → ClassId} {zz : (Nat → Nat) × (Nat → Nat)} (hinj : ∀ i j, i < 90 → j < 90 → ad i = ad j → i = j) {fu : Nat} (o : Nat) (p0 : Int32) (p1 : Int32) (p2 : Int32) (hk_o : o < 90 ∧ g_KC o = g_kX1) {S : g_St} (z : Unit × g_St) (h : f_X1_make fu o p0 p1 p2 S = some z) : g_Mv l g_KC 90 D ad cy zz yX1_make wsX1_make rm_X1_make [.ref (ad o), .int (p0), .int (p1), .int (p2)] S z := by
  refine g_ofv hinj (cc := cX1_make) (maxL := 4) (ret := none) (lv := [(0, .ref (ad o)), (1, .int (p0)), (2, .int (p1)), (3, .int (p2))]) (by decide) rfl (Nat.le_of_ble_eq_true rfl) rfl ?_
  intro x X hl hD ha hy hz
  subst hl hD ha hy hz
  unfold f_X1_make at h
  refine g_aload_n X dX1_make_0 0 rfl ?_
  refine g_iload_n X dX1_make_1 1 rfl ?_
  refine g_puti X g_cX1 w_X1_make_inX1 0 (by decide) w_X1_make_9 hk_o rfl rfl (t := .int) (by decide +kernel) rfl rfl dX1_make_2 ?_
  refine g_aload_n X dX1_make_5 0 rfl ?_
  refine g_iload_n X dX1_make_6 2 rfl ?_
  refine g_puti X g_cX1 w_X1_make_inX1 1 (by decide) w_X1_make_15 hk_o rfl rfl (t := .int) (by decide +kernel) rfl rfl dX1_make_7 ?_
  refine g_aload_n X dX1_make_10 0 rfl ?_
  refine g_iload_n X dX1_make_11 3 rfl ?_
  refine g_puti X g_cX1 w_X1_make_inX1 2 (by decide) w_X1_make_18 hk_o rfl rfl (t := .int) (by decide +kernel) rfl rfl dX1_make_12 ?_
  refine g_aload_n X dX1_make_15 0 rfl ?_
  refine g_iload_n X dX1_make_16 1 rfl ?_
  refine g_if_ne X 24 dX1_make_17 (by decide) h (fun c_17 h => ?_) (fun c_17 h => ?_)
  · skip
    refine g_iconst X (v := 0) dX1_make_24 (by decide) ?_
    refine g_puti X g_cX1 w_X1_make_inX1 3 (by decide) w_X1_make_21 hk_o rfl rfl (t := .int) (by decide +kernel) rfl rfl dX1_make_25 ?_
    exact g_vret X h dX1_make_28
  · skip
    refine g_iload_n X dX1_make_20 2 rfl ?_
    refine g_goto X 25 dX1_make_21 (by decide) ?_
    refine g_puti X g_cX1 w_X1_make_inX1 3 (by decide) w_X1_make_21 hk_o rfl rfl (t := .int) (by decide +kernel) rfl rfl dX1_make_25 ?_
    exact g_vret X h dX1_make_28
abbrev rm_X1_become : Room := { frames := 0, cells := 0, slots := 0, locals := 0 }
theorem hd_X1_become : yX1_become.cls = RX1 ∧ yX1_become.cls ≠ "java/lang/invoke/MethodHandle" ∧ yX1_become.cls ≠ "java/lang/invoke/VarHandle" ∧ (parseMethodDescriptor yX1_become.desc).map (fun d => d.parameters.length) = some 1 := by decide +kernel
theorem w_X1_become_9 : Cond.fieldLink RX1 9 "TokenDoors$Door" "kind" "I" ∈ wsX1_become := by decide +kernel
theorem w_X1_become_inX1 : ∀ w ∈ wsX10, w ∈ wsX1_become := by decide +kernel
theorem w_X1_become_15 : Cond.fieldLink RX1 15 "TokenDoors$Door" "depth" "I" ∈ wsX1_become := by decide +kernel
theorem w_X1_become_18 : Cond.fieldLink RX1 18 "TokenDoors$Door" "rate" "I" ∈ wsX1_become := by decide +kernel
theorem w_X1_become_21 : Cond.fieldLink RX1 21 "TokenDoors$Door" "holds" "I" ∈ wsX1_become := by decide +kernel
def f_X1_become (fu : Nat) (o : Nat) (p0 : Nat) (S : g_St) : Option (Unit × g_St) :=
  some ((), (g_u (g_u (g_u (g_u S.1 o 0 (S.1 p0 0)) o 1 ((g_u S.1 o 0 (S.1 p0 0)) p0 1)) o 2 ((g_u (g_u S.1 o 0 (S.1 p0 0)) o 1 ((g_u S.1 o 0 (S.1 p0 0)) p0 1)) p0 2)) o 3 ((g_u (g_u (g_u S.1 o 0 (S.1 p0 0)) o 1 ((g_u S.1 o 0 (S.1 p0 0)) p0 1)) o 2 ((g_u (g_u S.1 o 0 (S.1 p0 0)) o 1 ((g_u S.1 o 0 (S.1 p0 0)) p0 1)) p0 2)) p0 3), S.2))
set_option maxRecDepth 100000 in
set_option maxHeartbeats 4000000 in
theorem ct_X1_become {l : Launch} {D : va_G} {ad : Nat → Nat} {cy : Nat → ClassId} {zz : (Nat → Nat) × (Nat → Nat)} (hinj : ∀ i j, i < 90 → j < 90 → ad i = ad j → i = j) {fu : Nat} (o : Nat) (p0 : Nat) (hk_o : o < 90 ∧ g_KC o = g_kX1) (hk_p0 : p0 < 90 ∧ g_KC p0 = g_kX1) {S : g_St} (z : Unit × g_St) (h : f_X1_become fu o p0 S = some z) : g_Mv l g_KC 90 D ad cy zz yX1_become wsX1_become rm_X1_become [.ref (ad o), .ref (ad p0)] S z := by
  refine g_ofv hinj (cc := cX1_become) (maxL := 2) (ret := none) (lv := [(0, .ref (ad o)), (1, .ref (ad p0))]) (by decide) rfl (Nat.le_of_ble_eq_true rfl) rfl ?_
  intro x X hl hD ha hy hz
  subst hl hD ha hy hz
  unfold f_X1_become at h
  refine g_aload_n X dX1_become_0 0 rfl ?_
  refine g_aload_n X dX1_become_1 1 rfl ?_
  refine g_geti X g_cX1 w_X1_become_inX1 0 (by decide) w_X1_become_9 hk_p0 rfl dX1_become_2 ?_
  refine g_puti X g_cX1 w_X1_become_inX1 0 (by decide) w_X1_become_9 hk_o rfl rfl (t := .int) (by decide +kernel) rfl rfl dX1_become_5 ?_
  refine g_aload_n X dX1_become_8 0 rfl ?_
  refine g_aload_n X dX1_become_9 1 rfl ?_
  refine g_geti X g_cX1 w_X1_become_inX1 1 (by decide) w_X1_become_15 hk_p0 rfl dX1_become_10 ?_
  refine g_puti X g_cX1 w_X1_become_inX1 1 (by decide) w_X1_become_15 hk_o rfl rfl (t := .int) (by decide +kernel) rfl rfl dX1_become_13 ?_
  refine g_aload_n X dX1_become_16 0 rfl ?_
  refine g_aload_n X dX1_become_17 1 rfl ?_
  refine g_geti X g_cX1 w_X1_become_inX1 2 (by decide) w_X1_become_18 hk_p0 rfl dX1_become_18 ?_
  refine g_puti X g_cX1 w_X1_become_inX1 2 (by decide) w_X1_become_18 hk_o rfl rfl (t := .int) (by decide +kernel) rfl rfl dX1_become_21 ?_
  refine g_aload_n X dX1_become_24 0 rfl ?_
  refine g_aload_n X dX1_become_25 1 rfl ?_
  refine g_geti X g_cX1 w_X1_become_inX1 3 (by decide) w_X1_become_21 hk_p0 rfl dX1_become_26 ?_
  refine g_puti X g_cX1 w_X1_become_inX1 3 (by decide) w_X1_become_21 hk_o rfl rfl (t := .int) (by decide +kernel) rfl rfl dX1_become_29 ?_
  exact g_vret X h dX1_become_32
abbrev rm_X1_countAnew : Room := { frames := 0, cells := 0, slots := 0, locals := 0 }
theorem hd_X1_countAnew : yX1_countAnew.cls = RX1 ∧ yX1_countAnew.cls ≠ "java/lang/invoke/MethodHandle" ∧ yX1_countAnew.cls ≠ "java/lang/invoke/VarHandle" ∧ (parseMethodDescriptor yX1_countAnew.desc).map (fun d => d.parameters.length) = some 0 := by decide +kernel
theorem w_X1_countAnew_24 : Cond.fieldLink RX1 24 "TokenDoors$Door" "refused" "I" ∈ wsX1_countAnew := by decide +kernel
theorem w_X1_countAnew_inX1 : ∀ w ∈ wsX10, w ∈ wsX1_countAnew := by decide +kernel
theorem w_X1_countAnew_27 : Cond.fieldLink RX1 27 "TokenDoors$Door" "standsOpen" "Z" ∈ wsX1_countAnew := by decide +kernel
def f_X1_countAnew (fu : Nat) (o : Nat) (S : g_St) : Option (Unit × g_St) :=
  some ((), (g_u (g_u S.1 o 4 (0 : Int32)) o 5 (0 : Int32), S.2))
set_option maxRecDepth 100000 in
set_option maxHeartbeats 4000000 in
theorem ct_X1_countAnew {l : Launch} {D : va_G} {ad : Nat → Nat} {cy : Nat → ClassId} {zz : (Nat → Nat) × (Nat → Nat)} (hinj : ∀ i j, i < 90 → j < 90 → ad i = ad j → i = j) {fu : Nat} (o : Nat) (hk_o : o < 90 ∧ g_KC o = g_kX1) {S : g_St} (z : Unit × g_St) (h : f_X1_countAnew fu o S = some z) : g_Mv l g_KC 90 D ad cy zz yX1_countAnew wsX1_countAnew rm_X1_countAnew [.ref (ad o)] S z := by
  refine g_ofv hinj (cc := cX1_countAnew) (maxL := 1) (ret := none) (lv := [(0, .ref (ad o))]) (by decide) rfl (Nat.le_of_ble_eq_true rfl) rfl ?_
  intro x X hl hD ha hy hz
  subst hl hD ha hy hz
  unfold f_X1_countAnew at h
  refine g_aload_n X dX1_countAnew_0 0 rfl ?_
  refine g_iconst X (v := 0) dX1_countAnew_1 (by decide) ?_
  refine g_puti X g_cX1 w_X1_countAnew_inX1 4 (by decide) w_X1_countAnew_24 hk_o rfl rfl (t := .int) (by decide +kernel) rfl rfl dX1_countAnew_2 ?_
  refine g_aload_n X dX1_countAnew_5 0 rfl ?_
  refine g_iconst X (v := 0) dX1_countAnew_6 (by decide) ?_
  refine g_puti X g_cX1 w_X1_countAnew_inX1 5 (by decide) w_X1_countAnew_27 hk_o rfl rfl (t := .boolean) (by decide +kernel) rfl rfl dX1_countAnew_7 ?_
  exact g_vret X h dX1_countAnew_10
abbrev rm_X1_told : Room := { frames := 0, cells := 0, slots := 0, locals := 0 }
theorem hd_X1_told : yX1_told.cls = RX1 ∧ yX1_told.cls ≠ "java/lang/invoke/MethodHandle" ∧ yX1_told.cls ≠ "java/lang/invoke/VarHandle" ∧ (parseMethodDescriptor yX1_told.desc).map (fun d => d.parameters.length) = some 1 := by decide +kernel
theorem w_X1_told_9 : Cond.fieldLink RX1 9 "TokenDoors$Door" "kind" "I" ∈ wsX1_told := by decide +kernel
theorem w_X1_told_inX1 : ∀ w ∈ wsX10, w ∈ wsX1_told := by decide +kernel
theorem w_X1_told_15 : Cond.fieldLink RX1 15 "TokenDoors$Door" "depth" "I" ∈ wsX1_told := by decide +kernel
theorem w_X1_told_18 : Cond.fieldLink RX1 18 "TokenDoors$Door" "rate" "I" ∈ wsX1_told := by decide +kernel
theorem w_X1_told_21 : Cond.fieldLink RX1 21 "TokenDoors$Door" "holds" "I" ∈ wsX1_told := by decide +kernel
def f_X1_told (fu : Nat) (o : Nat) (p0 : Int32) (S : g_St) : Option (Int32 × g_St) :=
  if p0 = 0 then (some ((S.1 o 0), S)) else (if p0 = 1 then (some ((S.1 o 1), S)) else (if p0 = 2 then (some ((S.1 o 2), S)) else (some ((S.1 o 3), S))))
set_option maxRecDepth 100000 in
set_option maxHeartbeats 4000000 in
theorem ct_X1_told {l : Launch} {D : va_G} {ad : Nat → Nat} {cy : Nat → ClassId} {zz : (Nat → Nat) × (Nat → Nat)} (hinj : ∀ i j, i < 90 → j < 90 → ad i = ad j → i = j) {fu : Nat} (o : Nat) (p0 : Int32) (hk_o : o < 90 ∧ g_KC o = g_kX1) {S : g_St} (z : Int32 × g_St) (h : f_X1_told fu o p0 S = some z) : g_Mi l g_KC 90 D ad cy zz yX1_told wsX1_told rm_X1_told [.ref (ad o), .int (p0)] S z := by
  refine g_ofi hinj (cc := cX1_told) (maxL := 2) (ret := (some .int)) (lv := [(0, .ref (ad o)), (1, .int (p0))]) (by decide) rfl (Nat.le_of_ble_eq_true rfl) rfl ?_
  intro x X hl hD ha hy hz
  subst hl hD ha hy hz
  unfold f_X1_told at h
  refine g_iload_n X dX1_told_0 1 rfl ?_
  refine g_ifs h (fun c_1_0 h => ?_) (fun c_1_0 h => ?_)
  · refine g_tableIn X 28 (off := 27) dX1_told_1 (by rw [c_1_0]; decide) (by rw [c_1_0]; decide) (by rw [c_1_0]; rfl) (by decide) ?_
    refine g_aload_n X dX1_told_28 0 rfl ?_
    refine g_geti X g_cX1 w_X1_told_inX1 0 (by decide) w_X1_told_9 hk_o rfl dX1_told_29 ?_
    exact g_iret X h dX1_told_32
  refine g_ifs h (fun c_1_1 h => ?_) (fun c_1_1 h => ?_)
  · refine g_tableIn X 33 (off := 32) dX1_told_1 (by rw [c_1_1]; decide) (by rw [c_1_1]; decide) (by rw [c_1_1]; rfl) (by decide) ?_
    refine g_aload_n X dX1_told_33 0 rfl ?_
    refine g_geti X g_cX1 w_X1_told_inX1 1 (by decide) w_X1_told_15 hk_o rfl dX1_told_34 ?_
    exact g_iret X h dX1_told_37
  refine g_ifs h (fun c_1_2 h => ?_) (fun c_1_2 h => ?_)
  · refine g_tableIn X 38 (off := 37) dX1_told_1 (by rw [c_1_2]; decide) (by rw [c_1_2]; decide) (by rw [c_1_2]; rfl) (by decide) ?_
    refine g_aload_n X dX1_told_38 0 rfl ?_
    refine g_geti X g_cX1 w_X1_told_inX1 2 (by decide) w_X1_told_18 hk_o rfl dX1_told_39 ?_
    exact g_iret X h dX1_told_42
  refine g_tableOut X 43 dX1_told_1 (g_sw_out (n := 2) (by decide) rfl (fun k hk => by rcases (show k = 0 ∨ k = 1 ∨ k = 2 by omega) with rfl | rfl | rfl <;> first | exact c_1_0 | exact c_1_1 | exact c_1_2)) (by decide) ?_
  refine g_aload_n X dX1_told_43 0 rfl ?_
  refine g_geti X g_cX1 w_X1_told_inX1 3 (by decide) w_X1_told_21 hk_o rfl dX1_told_44 ?_
  exact g_iret X h dX1_told_47
abbrev rm_X1_change : Room := { frames := 1, cells := 0, slots := 0, locals := 23 }
theorem hd_X1_change : yX1_change.cls = RX1 ∧ yX1_change.cls ≠ "java/lang/invoke/MethodHandle" ∧ yX1_change.cls ≠ "java/lang/invoke/VarHandle" ∧ (parseMethodDescriptor yX1_change.desc).map (fun d => d.parameters.length) = some 2 := by decide +kernel
theorem w_X1_change_9 : Cond.fieldLink RX1 9 "TokenDoors$Door" "kind" "I" ∈ wsX1_change := by decide +kernel
theorem w_X1_change_inX1 : ∀ w ∈ wsX10, w ∈ wsX1_change := by decide +kernel
theorem w_X1_change_21 : Cond.fieldLink RX1 21 "TokenDoors$Door" "holds" "I" ∈ wsX1_change := by decide +kernel
theorem w_X1_change_15 : Cond.fieldLink RX1 15 "TokenDoors$Door" "depth" "I" ∈ wsX1_change := by decide +kernel
theorem w_X1_change_31 : Cond.methodLink RX1 31 Lib.Math.min.name ∈ wsX1_change := by decide +kernel
theorem w_X1_change_stmmin : Cond.static Lib.Math.min.name ∈ wsX1_change := by decide +kernel
theorem w_X1_change_inMath : Cond.initialized "java/lang/Math" ∈ wsX1_change := by decide +kernel
theorem w_X1_change_commin : Cond.code Lib.Math.min.name Lib.Math.min.code 2 (some .int) ∈ wsX1_change := by decide +kernel
theorem w_X1_change_18 : Cond.fieldLink RX1 18 "TokenDoors$Door" "rate" "I" ∈ wsX1_change := by decide +kernel
def j_X1_change_57 (fu : Nat) (v0 : Nat) (S : g_St) : Option (Unit × g_St) :=
  some ((), (g_u S.1 v0 3 (if (S.1 v0 1) < (S.1 v0 3) then (S.1 v0 1) else (S.1 v0 3)), S.2))
def f_X1_change (fu : Nat) (o : Nat) (p0 : Int32) (p1 : Int32) (S : g_St) : Option (Unit × g_St) :=
  if p0 = 0 then (j_X1_change_57 fu o (g_u S.1 o 0 p1, S.2)) else (if p0 = 1 then (j_X1_change_57 fu o (g_u S.1 o 1 p1, S.2)) else (if p0 = 2 then (j_X1_change_57 fu o (g_u S.1 o 2 p1, S.2)) else (j_X1_change_57 fu o (g_u S.1 o 3 p1, S.2))))
set_option maxRecDepth 100000 in
set_option maxHeartbeats 4000000 in
theorem vj_X1_change_57 {x : g_CX} {z : Unit × g_St} {fu : Nat} (X : g_X 90 x cX1_change RX1 3 wsX1_change rm_X1_change none) (v0 : Nat) (hk_v0 : v0 < 90 ∧ g_KC v0 = g_kX1) (S : g_St) (h : j_X1_change_57 fu v0 S = some z) : g_V g_KC 90 x 3 (g_qv g_KC 90 x z) S 57 [(0, .ref (g_ad x v0))] [] := by
  unfold j_X1_change_57 at h
  refine g_aload_n X dX1_change_57 0 rfl ?_
  refine g_aload_n X dX1_change_58 0 rfl ?_
  refine g_geti X g_cX1 w_X1_change_inX1 3 (by decide) w_X1_change_21 hk_v0 rfl dX1_change_59 ?_
  refine g_aload_n X dX1_change_62 0 rfl ?_
  refine g_geti X g_cX1 w_X1_change_inX1 1 (by decide) w_X1_change_15 hk_v0 rfl dX1_change_63 ?_
  refine g_mmin X w_X1_change_31 w_X1_change_stmmin w_X1_change_inMath w_X1_change_commin (by decide) (Nat.le_of_ble_eq_true rfl) dX1_change_66 ?_
  refine g_puti X g_cX1 w_X1_change_inX1 3 (by decide) w_X1_change_21 hk_v0 rfl rfl (t := .int) (by decide +kernel) rfl rfl dX1_change_69 ?_
  exact g_vret X h dX1_change_72
set_option maxRecDepth 100000 in
set_option maxHeartbeats 4000000 in
theorem ct_X1_change {l : Launch} {D : va_G} {ad : Nat → Nat} {cy : Nat → ClassId} {zz : (Nat → Nat) × (Nat → Nat)} (hinj : ∀ i j, i < 90 → j < 90 → ad i = ad j → i = j) {fu : Nat} (o : Nat) (p0 : Int32) (p1 : Int32) (hk_o : o < 90 ∧ g_KC o = g_kX1) {S : g_St} (z : Unit × g_St) (h : f_X1_change fu o p0 p1 S = some z) : g_Mv l g_KC 90 D ad cy zz yX1_change wsX1_change rm_X1_change [.ref (ad o), .int (p0), .int (p1)] S z := by
  refine g_ofv hinj (cc := cX1_change) (maxL := 3) (ret := none) (lv := [(0, .ref (ad o)), (1, .int (p0)), (2, .int (p1))]) (by decide) rfl (Nat.le_of_ble_eq_true rfl) rfl ?_
  intro x X hl hD ha hy hz
  subst hl hD ha hy hz
  unfold f_X1_change at h
  refine g_iload_n X dX1_change_0 1 rfl ?_
  refine g_ifs h (fun c_1_0 h => ?_) (fun c_1_0 h => ?_)
  · refine g_tableIn X 28 (off := 27) dX1_change_1 (by rw [c_1_0]; decide) (by rw [c_1_0]; decide) (by rw [c_1_0]; rfl) (by decide) ?_
    refine g_aload_n X dX1_change_28 0 rfl ?_
    refine g_iload_n X dX1_change_29 2 rfl ?_
    refine g_puti X g_cX1 w_X1_change_inX1 0 (by decide) w_X1_change_9 hk_o rfl rfl (t := .int) (by decide +kernel) rfl rfl dX1_change_30 ?_
    refine g_goto X 57 dX1_change_33 (by decide) ?_
    refine g_sub [0] _ rfl ?_
    exact vj_X1_change_57 X o hk_o _ h
  refine g_ifs h (fun c_1_1 h => ?_) (fun c_1_1 h => ?_)
  · refine g_tableIn X 36 (off := 35) dX1_change_1 (by rw [c_1_1]; decide) (by rw [c_1_1]; decide) (by rw [c_1_1]; rfl) (by decide) ?_
    refine g_aload_n X dX1_change_36 0 rfl ?_
    refine g_iload_n X dX1_change_37 2 rfl ?_
    refine g_puti X g_cX1 w_X1_change_inX1 1 (by decide) w_X1_change_15 hk_o rfl rfl (t := .int) (by decide +kernel) rfl rfl dX1_change_38 ?_
    refine g_goto X 57 dX1_change_41 (by decide) ?_
    refine g_sub [0] _ rfl ?_
    exact vj_X1_change_57 X o hk_o _ h
  refine g_ifs h (fun c_1_2 h => ?_) (fun c_1_2 h => ?_)
  · refine g_tableIn X 44 (off := 43) dX1_change_1 (by rw [c_1_2]; decide) (by rw [c_1_2]; decide) (by rw [c_1_2]; rfl) (by decide) ?_
    refine g_aload_n X dX1_change_44 0 rfl ?_
    refine g_iload_n X dX1_change_45 2 rfl ?_
    refine g_puti X g_cX1 w_X1_change_inX1 2 (by decide) w_X1_change_18 hk_o rfl rfl (t := .int) (by decide +kernel) rfl rfl dX1_change_46 ?_
    refine g_goto X 57 dX1_change_49 (by decide) ?_
    refine g_sub [0] _ rfl ?_
    exact vj_X1_change_57 X o hk_o _ h
  refine g_tableOut X 52 dX1_change_1 (g_sw_out (n := 2) (by decide) rfl (fun k hk => by rcases (show k = 0 ∨ k = 1 ∨ k = 2 by omega) with rfl | rfl | rfl <;> first | exact c_1_0 | exact c_1_1 | exact c_1_2)) (by decide) ?_
  refine g_aload_n X dX1_change_52 0 rfl ?_
  refine g_iload_n X dX1_change_53 2 rfl ?_
  refine g_puti X g_cX1 w_X1_change_inX1 3 (by decide) w_X1_change_21 hk_o rfl rfl (t := .int) (by decide +kernel) rfl rfl dX1_change_54 ?_
  refine g_sub [0] _ rfl ?_
  exact vj_X1_change_57 X o hk_o _ h
abbrev rm_X1_room : Room := { frames := 0, cells := 0, slots := 0, locals := 0 }
theorem hd_X1_room : yX1_room.cls = RX1 ∧ yX1_room.cls ≠ "java/lang/invoke/MethodHandle" ∧ yX1_room.cls ≠ "java/lang/invoke/VarHandle" ∧ (parseMethodDescriptor yX1_room.desc).map (fun d => d.parameters.length) = some 0 := by decide +kernel
theorem w_X1_room_9 : Cond.fieldLink RX1 9 "TokenDoors$Door" "kind" "I" ∈ wsX1_room := by decide +kernel
theorem w_X1_room_inX1 : ∀ w ∈ wsX10, w ∈ wsX1_room := by decide +kernel
theorem w_X1_room_15 : Cond.fieldLink RX1 15 "TokenDoors$Door" "depth" "I" ∈ wsX1_room := by decide +kernel
theorem w_X1_room_21 : Cond.fieldLink RX1 21 "TokenDoors$Door" "holds" "I" ∈ wsX1_room := by decide +kernel
def f_X1_room (fu : Nat) (o : Nat) (S : g_St) : Option (Int32 × g_St) :=
  if (S.1 o 0) = 0 then (some ((S.1 o 3), S)) else (some (((S.1 o 1) - (S.1 o 3)), S))
set_option maxRecDepth 100000 in
set_option maxHeartbeats 4000000 in
theorem ct_X1_room {l : Launch} {D : va_G} {ad : Nat → Nat} {cy : Nat → ClassId} {zz : (Nat → Nat) × (Nat → Nat)} (hinj : ∀ i j, i < 90 → j < 90 → ad i = ad j → i = j) {fu : Nat} (o : Nat) (hk_o : o < 90 ∧ g_KC o = g_kX1) {S : g_St} (z : Int32 × g_St) (h : f_X1_room fu o S = some z) : g_Mi l g_KC 90 D ad cy zz yX1_room wsX1_room rm_X1_room [.ref (ad o)] S z := by
  refine g_ofi hinj (cc := cX1_room) (maxL := 1) (ret := (some .int)) (lv := [(0, .ref (ad o))]) (by decide) rfl (Nat.le_of_ble_eq_true rfl) rfl ?_
  intro x X hl hD ha hy hz
  subst hl hD ha hy hz
  unfold f_X1_room at h
  refine g_aload_n X dX1_room_0 0 rfl ?_
  refine g_geti X g_cX1 w_X1_room_inX1 0 (by decide) w_X1_room_9 hk_o rfl dX1_room_1 ?_
  refine g_if_ne X 14 dX1_room_4 (by decide) h (fun c_4 h => ?_) (fun c_4 h => ?_)
  · skip
    refine g_aload_n X dX1_room_14 0 rfl ?_
    refine g_geti X g_cX1 w_X1_room_inX1 1 (by decide) w_X1_room_15 hk_o rfl dX1_room_15 ?_
    refine g_aload_n X dX1_room_18 0 rfl ?_
    refine g_geti X g_cX1 w_X1_room_inX1 3 (by decide) w_X1_room_21 hk_o rfl dX1_room_19 ?_
    refine g_isub X dX1_room_22 ?_
    exact g_iret X h dX1_room_23
  · skip
    refine g_aload_n X dX1_room_7 0 rfl ?_
    refine g_geti X g_cX1 w_X1_room_inX1 3 (by decide) w_X1_room_21 hk_o rfl dX1_room_8 ?_
    refine g_goto X 23 dX1_room_11 (by decide) ?_
    exact g_iret X h dX1_room_23
abbrev rm_X1_admit : Room := { frames := 1, cells := 0, slots := 0, locals := 23 }
theorem hd_X1_admit : yX1_admit.cls = RX1 ∧ yX1_admit.cls ≠ "java/lang/invoke/MethodHandle" ∧ yX1_admit.cls ≠ "java/lang/invoke/VarHandle" ∧ (parseMethodDescriptor yX1_admit.desc).map (fun d => d.parameters.length) = some 1 := by decide +kernel
theorem w_X1_admit_27 : Cond.fieldLink RX1 27 "TokenDoors$Door" "standsOpen" "Z" ∈ wsX1_admit := by decide +kernel
theorem w_X1_admit_inX1 : ∀ w ∈ wsX10, w ∈ wsX1_admit := by decide +kernel
theorem w_X1_admit_31 : Cond.methodLink RX1 31 Lib.Math.min.name ∈ wsX1_admit := by decide +kernel
theorem w_X1_admit_stmmin : Cond.static Lib.Math.min.name ∈ wsX1_admit := by decide +kernel
theorem w_X1_admit_inMath : Cond.initialized "java/lang/Math" ∈ wsX1_admit := by decide +kernel
theorem w_X1_admit_commin : Cond.code Lib.Math.min.name Lib.Math.min.code 2 (some .int) ∈ wsX1_admit := by decide +kernel
theorem w_X1_admit_21 : Cond.fieldLink RX1 21 "TokenDoors$Door" "holds" "I" ∈ wsX1_admit := by decide +kernel
theorem w_X1_admit_9 : Cond.fieldLink RX1 9 "TokenDoors$Door" "kind" "I" ∈ wsX1_admit := by decide +kernel
theorem w_X1_admit_24 : Cond.fieldLink RX1 24 "TokenDoors$Door" "refused" "I" ∈ wsX1_admit := by decide +kernel
def j_X1_admit_36 (fu : Nat) (v0 : Nat) (v1 : Int32) (v2 : Int32) (s0 : Nat) (s1 : Int32) (s2 : Int32) (S : g_St) : Option (Int32 × g_St) :=
  some (v2, (g_u (g_u S.1 s0 3 (s1 + s2)) v0 4 (((g_u S.1 s0 3 (s1 + s2)) v0 4) + (v1 - v2)), S.2))
def f_X1_admit (fu : Nat) (o : Nat) (p0 : Int32) (S : g_St) : Option (Int32 × g_St) :=
  if (S.1 o 5) = 0 then (g_bd (f_X1_room fu o S) fun r1 Sr1 => if (Sr1.1 o 0) = 0 then (j_X1_admit_36 fu o p0 ((if r1 < p0 then r1 else p0)) o ((Sr1.1 o 3)) ((-(if r1 < p0 then r1 else p0))) Sr1) else (j_X1_admit_36 fu o p0 ((if r1 < p0 then r1 else p0)) o ((Sr1.1 o 3)) ((if r1 < p0 then r1 else p0)) Sr1)) else (some (p0, S))
set_option maxRecDepth 100000 in
set_option maxHeartbeats 4000000 in
theorem vj_X1_admit_36 {x : g_CX} {z : Int32 × g_St} {fu : Nat} (X : g_X 90 x cX1_admit RX1 3 wsX1_admit rm_X1_admit (some .int)) (v0 : Nat) (v1 : Int32) (v2 : Int32) (s0 : Nat) (s1 : Int32) (s2 : Int32) (hk_v0 : v0 < 90 ∧ g_KC v0 = g_kX1) (hk_s0 : s0 < 90 ∧ g_KC s0 = g_kX1) (S : g_St) (h : j_X1_admit_36 fu v0 v1 v2 s0 s1 s2 S = some z) : g_V g_KC 90 x 3 (g_qi g_KC 90 x z) S 36 [(0, .ref (g_ad x v0)), (1, .int (v1)), (2, .int (v2))] [.int (s2), .int (s1), .ref (g_ad x s0)] := by
  unfold j_X1_admit_36 at h
  refine g_iadd X dX1_admit_36 ?_
  refine g_puti X g_cX1 w_X1_admit_inX1 3 (by decide) w_X1_admit_21 hk_s0 rfl rfl (t := .int) (by decide +kernel) rfl rfl dX1_admit_37 ?_
  refine g_aload_n X dX1_admit_40 0 rfl ?_
  refine g_dup X dX1_admit_41 rfl ?_
  refine g_geti X g_cX1 w_X1_admit_inX1 4 (by decide) w_X1_admit_24 hk_v0 rfl dX1_admit_42 ?_
  refine g_iload_n X dX1_admit_45 1 rfl ?_
  refine g_iload_n X dX1_admit_46 2 rfl ?_
  refine g_isub X dX1_admit_47 ?_
  refine g_iadd X dX1_admit_48 ?_
  refine g_puti X g_cX1 w_X1_admit_inX1 4 (by decide) w_X1_admit_24 hk_v0 rfl rfl (t := .int) (by decide +kernel) rfl rfl dX1_admit_49 ?_
  refine g_iload_n X dX1_admit_52 2 rfl ?_
  exact g_iret X h dX1_admit_53
set_option maxRecDepth 100000 in
set_option maxHeartbeats 4000000 in
theorem ct_X1_admit {l : Launch} {D : va_G} {ad : Nat → Nat} {cy : Nat → ClassId} {zz : (Nat → Nat) × (Nat → Nat)} (hinj : ∀ i j, i < 90 → j < 90 → ad i = ad j → i = j) {fu : Nat} (o : Nat) (p0 : Int32) (hk_o : o < 90 ∧ g_KC o = g_kX1) {S : g_St} (z : Int32 × g_St) (h : f_X1_admit fu o p0 S = some z) : g_Mi l g_KC 90 D ad cy zz yX1_admit wsX1_admit rm_X1_admit [.ref (ad o), .int (p0)] S z := by
  refine g_ofi hinj (cc := cX1_admit) (maxL := 3) (ret := (some .int)) (lv := [(0, .ref (ad o)), (1, .int (p0))]) (by decide) rfl (Nat.le_of_ble_eq_true rfl) rfl ?_
  intro x X hl hD ha hy hz
  subst hl hD ha hy hz
  unfold f_X1_admit at h
  refine g_aload_n X dX1_admit_0 0 rfl ?_
  refine g_geti X g_cX1 w_X1_admit_inX1 5 (by decide) w_X1_admit_27 hk_o rfl dX1_admit_1 ?_
  refine g_if_eq X 9 dX1_admit_4 (by decide) h (fun c_4 h => ?_) (fun c_4 h => ?_)
  · skip
    refine g_iload_n X dX1_admit_9 1 rfl ?_
    refine g_aload_n X dX1_admit_10 0 rfl ?_
    refine g_callVi X g_cX1 hk_o [] rfl (cwV 0 X.2.2.2.2.1 gX1_admit_X1_room rfl rfl rfl hd_X1_room ⟨Nat.le_of_ble_eq_true rfl, Nat.le_of_ble_eq_true rfl⟩) (Nat.le_of_ble_eq_true rfl) dX1_admit_11 h (fun q hq => ct_X1_room X.2.2.2.2.2.2.1 o hk_o _ hq) (fun r1 Sr1 h => ?_)
    refine g_mmin X w_X1_admit_31 w_X1_admit_stmmin w_X1_admit_inMath w_X1_admit_commin (by decide) (Nat.le_of_ble_eq_true rfl) dX1_admit_14 ?_
    refine g_istore_n X [(2, _), (0, _), (1, _)] dX1_admit_17 (by decide) rfl ?_
    refine g_aload_n X dX1_admit_18 1 rfl ?_
    refine g_dup X dX1_admit_19 rfl ?_
    refine g_geti X g_cX1 w_X1_admit_inX1 3 (by decide) w_X1_admit_21 hk_o rfl dX1_admit_20 ?_
    refine g_aload_n X dX1_admit_23 1 rfl ?_
    refine g_geti X g_cX1 w_X1_admit_inX1 0 (by decide) w_X1_admit_9 hk_o rfl dX1_admit_24 ?_
    refine g_if_ne X 35 dX1_admit_27 (by decide) h (fun c_27 h => ?_) (fun c_27 h => ?_)
    · skip
      refine g_iload_n X dX1_admit_35 0 rfl ?_
      refine g_sub [1, 2, 0] _ rfl ?_
      exact vj_X1_admit_36 X o p0 ((if r1 < p0 then r1 else p0)) o ((Sr1.1 o 3)) ((if r1 < p0 then r1 else p0)) hk_o hk_o _ h
    · skip
      refine g_iload_n X dX1_admit_30 0 rfl ?_
      refine g_ineg X dX1_admit_31 ?_
      refine g_goto X 36 dX1_admit_32 (by decide) ?_
      refine g_sub [1, 2, 0] _ rfl ?_
      exact vj_X1_admit_36 X o p0 ((if r1 < p0 then r1 else p0)) o ((Sr1.1 o 3)) ((-(if r1 < p0 then r1 else p0))) hk_o hk_o _ h
  · skip
    refine g_iload_n X dX1_admit_7 1 rfl ?_
    exact g_iret X h dX1_admit_8
abbrev rm_X1_settle : Room := { frames := 1, cells := 0, slots := 0, locals := 23 }
theorem hd_X1_settle : yX1_settle.cls = RX1 ∧ yX1_settle.cls ≠ "java/lang/invoke/MethodHandle" ∧ yX1_settle.cls ≠ "java/lang/invoke/VarHandle" ∧ (parseMethodDescriptor yX1_settle.desc).map (fun d => d.parameters.length) = some 1 := by decide +kernel
theorem w_X1_settle_27 : Cond.fieldLink RX1 27 "TokenDoors$Door" "standsOpen" "Z" ∈ wsX1_settle := by decide +kernel
theorem w_X1_settle_inX1 : ∀ w ∈ wsX10, w ∈ wsX1_settle := by decide +kernel
theorem w_X1_settle_9 : Cond.fieldLink RX1 9 "TokenDoors$Door" "kind" "I" ∈ wsX1_settle := by decide +kernel
theorem w_X1_settle_18 : Cond.fieldLink RX1 18 "TokenDoors$Door" "rate" "I" ∈ wsX1_settle := by decide +kernel
theorem w_X1_settle_21 : Cond.fieldLink RX1 21 "TokenDoors$Door" "holds" "I" ∈ wsX1_settle := by decide +kernel
theorem w_X1_settle_41 : Cond.methodLink RX1 41 Lib.Math.max.name ∈ wsX1_settle := by decide +kernel
theorem w_X1_settle_stmmax : Cond.static Lib.Math.max.name ∈ wsX1_settle := by decide +kernel
theorem w_X1_settle_inMath : Cond.initialized "java/lang/Math" ∈ wsX1_settle := by decide +kernel
theorem w_X1_settle_commax : Cond.code Lib.Math.max.name Lib.Math.max.code 2 (some .int) ∈ wsX1_settle := by decide +kernel
theorem w_X1_settle_15 : Cond.fieldLink RX1 15 "TokenDoors$Door" "depth" "I" ∈ wsX1_settle := by decide +kernel
theorem w_X1_settle_31 : Cond.methodLink RX1 31 Lib.Math.min.name ∈ wsX1_settle := by decide +kernel
theorem w_X1_settle_stmmin : Cond.static Lib.Math.min.name ∈ wsX1_settle := by decide +kernel
theorem w_X1_settle_commin : Cond.code Lib.Math.min.name Lib.Math.min.code 2 (some .int) ∈ wsX1_settle := by decide +kernel
def f_X1_settle (fu : Nat) (o : Nat) (p0 : Int32) (S : g_St) : Option (Unit × g_St) :=
  if (S.1 o 5) = 0 then (if (S.1 o 0) = 0 then (some ((), (g_u S.1 o 3 (if ((S.1 o 3) + (S.1 o 2)) < (S.1 o 1) then ((S.1 o 3) + (S.1 o 2)) else (S.1 o 1)), S.2))) else (if (S.1 o 0) = (1 : Int32) then (some ((), (g_u S.1 o 3 (if (0 : Int32) < ((S.1 o 3) - (S.1 o 2)) then ((S.1 o 3) - (S.1 o 2)) else (0 : Int32)), S.2))) else (if (S.1 o 2) ≤ 0 then (some ((), S)) else (g_nz (S.1 o 2) (if ((p0 + (1 : Int32)) - (p0 + (1 : Int32)) / (S.1 o 2) * (S.1 o 2)) = 0 then (if (S.1 o 0) = (2 : Int32) then (some ((), (g_u S.1 o 3 (0 : Int32), S.2))) else (g_nz (2 : Int32) (some ((), (g_u S.1 o 3 ((S.1 o 3) / (2 : Int32)), S.2))))) else (some ((), S))))))) else (some ((), S))
set_option maxRecDepth 100000 in
set_option maxHeartbeats 4000000 in
theorem ct_X1_settle {l : Launch} {D : va_G} {ad : Nat → Nat} {cy : Nat → ClassId} {zz : (Nat → Nat) × (Nat → Nat)} (hinj : ∀ i j, i < 90 → j < 90 → ad i = ad j → i = j) {fu : Nat} (o : Nat) (p0 : Int32) (hk_o : o < 90 ∧ g_KC o = g_kX1) {S : g_St} (z : Unit × g_St) (h : f_X1_settle fu o p0 S = some z) : g_Mv l g_KC 90 D ad cy zz yX1_settle wsX1_settle rm_X1_settle [.ref (ad o), .int (p0)] S z := by
  refine g_ofv hinj (cc := cX1_settle) (maxL := 2) (ret := none) (lv := [(0, .ref (ad o)), (1, .int (p0))]) (by decide) rfl (Nat.le_of_ble_eq_true rfl) rfl ?_
  intro x X hl hD ha hy hz
  subst hl hD ha hy hz
  unfold f_X1_settle at h
  refine g_aload_n X dX1_settle_0 0 rfl ?_
  refine g_geti X g_cX1 w_X1_settle_inX1 5 (by decide) w_X1_settle_27 hk_o rfl dX1_settle_1 ?_
  refine g_if_eq X 8 dX1_settle_4 (by decide) h (fun c_4 h => ?_) (fun c_4 h => ?_)
  · skip
    refine g_aload_n X dX1_settle_8 0 rfl ?_
    refine g_geti X g_cX1 w_X1_settle_inX1 0 (by decide) w_X1_settle_9 hk_o rfl dX1_settle_9 ?_
    refine g_if_ne X 38 dX1_settle_12 (by decide) h (fun c_12 h => ?_) (fun c_12 h => ?_)
    · skip
      refine g_aload_n X dX1_settle_38 0 rfl ?_
      refine g_geti X g_cX1 w_X1_settle_inX1 0 (by decide) w_X1_settle_9 hk_o rfl dX1_settle_39 ?_
      refine g_iconst X (v := 1) dX1_settle_42 (by decide) ?_
      refine g_icmp_ne X 66 dX1_settle_43 (by decide) h (fun c_43 h => ?_) (fun c_43 h => ?_)
      · skip
        refine g_aload_n X dX1_settle_66 0 rfl ?_
        refine g_geti X g_cX1 w_X1_settle_inX1 2 (by decide) w_X1_settle_18 hk_o rfl dX1_settle_67 ?_
        refine g_if_le X 106 dX1_settle_70 (by decide) h (fun c_70 h => ?_) (fun c_70 h => ?_)
        · skip
          exact g_vret X h dX1_settle_106
        · skip
          refine g_iload_n X dX1_settle_73 1 rfl ?_
          refine g_iconst X (v := 1) dX1_settle_74 (by decide) ?_
          refine g_iadd X dX1_settle_75 ?_
          refine g_aload_n X dX1_settle_76 0 rfl ?_
          refine g_geti X g_cX1 w_X1_settle_inX1 2 (by decide) w_X1_settle_18 hk_o rfl dX1_settle_77 ?_
          refine g_irem X dX1_settle_80 h (fun h => ?_)
          refine g_if_ne X 106 dX1_settle_81 (by decide) h (fun c_81 h => ?_) (fun c_81 h => ?_)
          · skip
            exact g_vret X h dX1_settle_106
          · skip
            refine g_aload_n X dX1_settle_84 0 rfl ?_
            refine g_aload_n X dX1_settle_85 0 rfl ?_
            refine g_geti X g_cX1 w_X1_settle_inX1 0 (by decide) w_X1_settle_9 hk_o rfl dX1_settle_86 ?_
            refine g_iconst X (v := 2) dX1_settle_89 (by decide) ?_
            refine g_icmp_ne X 97 dX1_settle_90 (by decide) h (fun c_90 h => ?_) (fun c_90 h => ?_)
            · skip
              refine g_aload_n X dX1_settle_97 0 rfl ?_
              refine g_geti X g_cX1 w_X1_settle_inX1 3 (by decide) w_X1_settle_21 hk_o rfl dX1_settle_98 ?_
              refine g_iconst X (v := 2) dX1_settle_101 (by decide) ?_
              refine g_idiv X dX1_settle_102 h (fun h => ?_)
              refine g_puti X g_cX1 w_X1_settle_inX1 3 (by decide) w_X1_settle_21 hk_o rfl rfl (t := .int) (by decide +kernel) rfl rfl dX1_settle_103 ?_
              exact g_vret X h dX1_settle_106
            · skip
              refine g_iconst X (v := 0) dX1_settle_93 (by decide) ?_
              refine g_goto X 103 dX1_settle_94 (by decide) ?_
              refine g_puti X g_cX1 w_X1_settle_inX1 3 (by decide) w_X1_settle_21 hk_o rfl rfl (t := .int) (by decide +kernel) rfl rfl dX1_settle_103 ?_
              exact g_vret X h dX1_settle_106
      · skip
        refine g_aload_n X dX1_settle_46 0 rfl ?_
        refine g_iconst X (v := 0) dX1_settle_47 (by decide) ?_
        refine g_aload_n X dX1_settle_48 0 rfl ?_
        refine g_geti X g_cX1 w_X1_settle_inX1 3 (by decide) w_X1_settle_21 hk_o rfl dX1_settle_49 ?_
        refine g_aload_n X dX1_settle_52 0 rfl ?_
        refine g_geti X g_cX1 w_X1_settle_inX1 2 (by decide) w_X1_settle_18 hk_o rfl dX1_settle_53 ?_
        refine g_isub X dX1_settle_56 ?_
        refine g_mmax X w_X1_settle_41 w_X1_settle_stmmax w_X1_settle_inMath w_X1_settle_commax (by decide) (Nat.le_of_ble_eq_true rfl) dX1_settle_57 ?_
        refine g_puti X g_cX1 w_X1_settle_inX1 3 (by decide) w_X1_settle_21 hk_o rfl rfl (t := .int) (by decide +kernel) rfl rfl dX1_settle_60 ?_
        refine g_goto X 106 dX1_settle_63 (by decide) ?_
        exact g_vret X h dX1_settle_106
    · skip
      refine g_aload_n X dX1_settle_15 0 rfl ?_
      refine g_aload_n X dX1_settle_16 0 rfl ?_
      refine g_geti X g_cX1 w_X1_settle_inX1 1 (by decide) w_X1_settle_15 hk_o rfl dX1_settle_17 ?_
      refine g_aload_n X dX1_settle_20 0 rfl ?_
      refine g_geti X g_cX1 w_X1_settle_inX1 3 (by decide) w_X1_settle_21 hk_o rfl dX1_settle_21 ?_
      refine g_aload_n X dX1_settle_24 0 rfl ?_
      refine g_geti X g_cX1 w_X1_settle_inX1 2 (by decide) w_X1_settle_18 hk_o rfl dX1_settle_25 ?_
      refine g_iadd X dX1_settle_28 ?_
      refine g_mmin X w_X1_settle_31 w_X1_settle_stmmin w_X1_settle_inMath w_X1_settle_commin (by decide) (Nat.le_of_ble_eq_true rfl) dX1_settle_29 ?_
      refine g_puti X g_cX1 w_X1_settle_inX1 3 (by decide) w_X1_settle_21 hk_o rfl rfl (t := .int) (by decide +kernel) rfl rfl dX1_settle_32 ?_
      refine g_goto X 106 dX1_settle_35 (by decide) ?_
      exact g_vret X h dX1_settle_106
  · skip
    exact g_vret X h dX1_settle_7
end
section
abbrev rm_X2_clear : Room := { frames := 0, cells := 0, slots := 0, locals := 0 }
theorem hd_X2_clear : yX2_clear.cls = RX2 ∧ yX2_clear.cls ≠ "java/lang/invoke/MethodHandle" ∧ yX2_clear.cls ≠ "java/lang/invoke/VarHandle" ∧ (parseMethodDescriptor yX2_clear.desc).map (fun d => d.parameters.length) = some 0 := by decide +kernel
theorem w_X2_clear_25 : Cond.fieldLink RX2 25 "TokenDoors$Hall" "doorCount" "I" ∈ wsX2_clear := by decide +kernel
theorem w_X2_clear_inX2 : ∀ w ∈ wsX20, w ∈ wsX2_clear := by decide +kernel
theorem w_X2_clear_29 : Cond.fieldLink RX2 29 "TokenDoors$Hall" "crowdCount" "I" ∈ wsX2_clear := by decide +kernel
theorem w_X2_clear_32 : Cond.fieldLink RX2 32 "TokenDoors$Hall" "tick" "I" ∈ wsX2_clear := by decide +kernel
theorem w_X2_clear_35 : Cond.fieldLink RX2 35 "TokenDoors$Hall" "let" "I" ∈ wsX2_clear := by decide +kernel
theorem w_X2_clear_38 : Cond.fieldLink RX2 38 "TokenDoors$Hall" "turned" "I" ∈ wsX2_clear := by decide +kernel
def f_X2_clear (fu : Nat) (o : Nat) (S : g_St) : Option (Unit × g_St) :=
  some ((), (g_u (g_u (g_u (g_u (g_u S.1 o 2 (0 : Int32)) o 3 (0 : Int32)) o 4 (0 : Int32)) o 5 (0 : Int32)) o 6 (0 : Int32), S.2))
set_option maxRecDepth 100000 in
set_option maxHeartbeats 400000 in
theorem ct_X2_clear {l : Launch} {D : va_G} {ad : Nat → Nat} {cy : Nat → ClassId} {zz : (Nat → Nat) × (Nat → Nat)} (hinj : ∀ i j, i < 90 → j < 90 → ad i = ad j → i = j) {fu : Nat} (o : Nat) (hk_o : o < 90 ∧ g_KC o = g_kX2) {S : g_St} (z : Unit × g_St) (h : f_X2_clear fu o S = some z) : g_Mv l g_KC 90 D ad cy zz yX2_clear wsX2_clear rm_X2_clear [.ref (ad o)] S z := by
  refine g_ofv hinj (cc := cX2_clear) (maxL := 1) (ret := none) (lv := [(0, .ref (ad o))]) (by decide) rfl (Nat.le_of_ble_eq_true rfl) rfl ?_
  intro x X hl hD ha hy hz
  subst hl hD ha hy hz
  unfold f_X2_clear at h
  refine g_aload_n X dX2_clear_0 0 rfl ?_
  refine g_iconst X (v := 0) dX2_clear_1 (by decide) ?_
  refine g_puti X g_cX2 w_X2_clear_inX2 2 (by decide) w_X2_clear_25 hk_o rfl rfl (t := .int) (by decide +kernel) rfl rfl dX2_clear_2 ?_
  refine g_aload_n X dX2_clear_5 0 rfl ?_
  refine g_iconst X (v := 0) dX2_clear_6 (by decide) ?_
  refine g_puti X g_cX2 w_X2_clear_inX2 3 (by decide) w_X2_clear_29 hk_o rfl rfl (t := .int) (by decide +kernel) rfl rfl dX2_clear_7 ?_
  refine g_aload_n X dX2_clear_10 0 rfl ?_
  refine g_iconst X (v := 0) dX2_clear_11 (by decide) ?_
  refine g_puti X g_cX2 w_X2_clear_inX2 4 (by decide) w_X2_clear_32 hk_o rfl rfl (t := .int) (by decide +kernel) rfl rfl dX2_clear_12 ?_
  refine g_aload_n X dX2_clear_15 0 rfl ?_
  refine g_iconst X (v := 0) dX2_clear_16 (by decide) ?_
  refine g_puti X g_cX2 w_X2_clear_inX2 5 (by decide) w_X2_clear_35 hk_o rfl rfl (t := .int) (by decide +kernel) rfl rfl dX2_clear_17 ?_
  refine g_aload_n X dX2_clear_20 0 rfl ?_
  refine g_iconst X (v := 0) dX2_clear_21 (by decide) ?_
  refine g_puti X g_cX2 w_X2_clear_inX2 6 (by decide) w_X2_clear_38 hk_o rfl rfl (t := .int) (by decide +kernel) rfl rfl dX2_clear_22 ?_
  exact g_vret X h dX2_clear_25
abbrev rm_X2_become : Room := { frames := 1, cells := 0, slots := 0, locals := 23 }
theorem hd_X2_become : yX2_become.cls = RX2 ∧ yX2_become.cls ≠ "java/lang/invoke/MethodHandle" ∧ yX2_become.cls ≠ "java/lang/invoke/VarHandle" ∧ (parseMethodDescriptor yX2_become.desc).map (fun d => d.parameters.length) = some 1 := by decide +kernel
theorem w_X2_become_25 : Cond.fieldLink RX2 25 "TokenDoors$Hall" "doorCount" "I" ∈ wsX2_become := by decide +kernel
theorem w_X2_become_inX2 : ∀ w ∈ wsX20, w ∈ wsX2_become := by decide +kernel
theorem w_X2_become_11 : Cond.fieldLink RX2 11 "TokenDoors$Hall" "doors" "[LTokenDoors$Door;" ∈ wsX2_become := by decide +kernel
theorem w_X2_become_29 : Cond.fieldLink RX2 29 "TokenDoors$Hall" "crowdCount" "I" ∈ wsX2_become := by decide +kernel
theorem w_X2_become_19 : Cond.fieldLink RX2 19 "TokenDoors$Hall" "crowds" "[LTokenDoors$Crowd;" ∈ wsX2_become := by decide +kernel
theorem w_X2_become_45 : Cond.fieldLink RX2 45 "TokenDoors$Crowd" "start" "I" ∈ wsX2_become := by decide +kernel
theorem w_X2_become_inX0 : ∀ w ∈ wsX00, w ∈ wsX2_become := by decide +kernel
theorem w_X2_become_48 : Cond.fieldLink RX2 48 "TokenDoors$Crowd" "many" "I" ∈ wsX2_become := by decide +kernel
theorem w_X2_become_51 : Cond.fieldLink RX2 51 "TokenDoors$Crowd" "every" "I" ∈ wsX2_become := by decide +kernel
theorem w_X2_become_32 : Cond.fieldLink RX2 32 "TokenDoors$Hall" "tick" "I" ∈ wsX2_become := by decide +kernel
theorem w_X2_become_35 : Cond.fieldLink RX2 35 "TokenDoors$Hall" "let" "I" ∈ wsX2_become := by decide +kernel
theorem w_X2_become_38 : Cond.fieldLink RX2 38 "TokenDoors$Hall" "turned" "I" ∈ wsX2_become := by decide +kernel
def b_X2_become_10 (fu : Nat) (v0 : Nat) (v1 : Nat) (v2 : Int32) (S : g_St) : Option ((Int32 × g_St) ⊕ (g_St)) :=
  if (S.1 v0 2) ≤ v2 then (some (.inr S)) else (g_ld g_KC 90 (.inr (3, 4, true)) (S.2 v0 0) fun a1 => g_ix v2 4 fun i2 => g_ld g_KC 90 g_kX1 (S.2 a1 i2) fun a2 => g_ld g_KC 90 (.inr (3, 4, true)) (S.2 v1 0) fun a3 => g_ix v2 4 fun i4 => g_ld g_KC 90 g_kX1 (S.2 a3 i4) fun a4 => g_bd (f_X1_become fu a2 a4 S) fun _ Sr5 => some (.inl ((v2 + 1), Sr5)))
def b_X2_become_49 (fu : Nat) (v0 : Nat) (v1 : Nat) (v2 : Int32) (S : g_St) : Option ((Int32 × g_St) ⊕ (g_St)) :=
  if (S.1 v0 3) ≤ v2 then (some (.inr S)) else (g_ld g_KC 90 (.inr (4, 8, true)) (S.2 v1 1) fun a6 => g_ix v2 8 fun i7 => g_ld g_KC 90 g_kX0 (S.2 a6 i7) fun a7 => g_ld g_KC 90 (.inr (4, 8, true)) (S.2 v0 1) fun a8 => g_ix v2 8 fun i9 => g_ld g_KC 90 g_kX0 (S.2 a8 i9) fun a9 => g_bd (f_X0_make fu a9 ((S.1 a7 0)) ((S.1 a7 1)) ((S.1 a7 2)) S) fun _ Sr10 => some (.inl ((v2 + 1), Sr10)))
def f_X2_become (fu : Nat) (o : Nat) (p0 : Nat) (S : g_St) : Option (Unit × g_St) :=
  g_th (g_lp (fun t => b_X2_become_10 fu o p0 t.1 t.2) fu ((0 : Int32), (g_u S.1 o 2 (S.1 p0 2), S.2))) fun e => match e with | S1 => g_th (g_lp (fun t => b_X2_become_49 fu o p0 t.1 t.2) fu ((0 : Int32), (g_u S1.1 o 3 (S1.1 p0 3), S1.2))) fun e => match e with | S2 => some ((), (g_u (g_u (g_u S2.1 o 4 (S2.1 p0 4)) o 5 ((g_u S2.1 o 4 (S2.1 p0 4)) p0 5)) o 6 ((g_u (g_u S2.1 o 4 (S2.1 p0 4)) o 5 ((g_u S2.1 o 4 (S2.1 p0 4)) p0 5)) p0 6), S2.2))
set_option maxRecDepth 100000 in
set_option maxHeartbeats 400000 in
theorem vb_X2_become_10 {x : g_CX} {z : Unit × g_St} {fu : Nat} (X : g_X 90 x cX2_become RX2 4 wsX2_become rm_X2_become none) (v0 : Nat) (v1 : Nat) (v2 : Int32) (hk_v0 : v0 < 90 ∧ g_KC v0 = g_kX2) (hk_v1 : v1 < 90 ∧ g_KC v1 = g_kX2) (S : g_St) {r : (Int32 × g_St) ⊕ (g_St)} (h : b_X2_become_10 fu v0 v1 v2 S = some r) (hc : Sum.elim (fun t : Int32 × g_St => g_V g_KC 90 x 4 (g_qv g_KC 90 x z) t.2 10 [(0, .ref (g_ad x v0)), (1, .ref (g_ad x v1)), (2, .int (t.1))] []) (fun e : g_St => g_V g_KC 90 x 4 (g_qv g_KC 90 x z) e 39 [(0, .ref (g_ad x v0)), (1, .ref (g_ad x v1))] []) r) : g_V g_KC 90 x 4 (g_qv g_KC 90 x z) S 10 [(0, .ref (g_ad x v0)), (1, .ref (g_ad x v1)), (2, .int (v2))] [] := by
  unfold b_X2_become_10 at h
  refine g_iload_n X dX2_become_10 2 rfl ?_
  refine g_aload_n X dX2_become_11 0 rfl ?_
  refine g_geti X g_cX2 w_X2_become_inX2 2 (by decide) w_X2_become_25 hk_v0 rfl dX2_become_12 ?_
  refine g_icmp_ge X 39 dX2_become_15 (by decide) h (fun c_15 h => ?_) (fun c_15 h => ?_)
  · skip
    cases h
    exact g_sub [0, 1] _ rfl hc
  · skip
    refine g_aload_n X dX2_become_18 0 rfl ?_
    refine g_getr X g_cX2 w_X2_become_inX2 0 (by decide) w_X2_become_11 hk_v0 rfl dX2_become_19 h (fun a1 hk_a1 h => ?_)
    refine g_iload_n X dX2_become_22 2 rfl ?_
    refine g_aald X 3 RX1 rfl hk_a1 dX2_become_23 h (fun a2 hk_a2 h => ?_)
    refine g_aload_n X dX2_become_24 1 rfl ?_
    refine g_getr X g_cX2 w_X2_become_inX2 0 (by decide) w_X2_become_11 hk_v1 rfl dX2_become_25 h (fun a3 hk_a3 h => ?_)
    refine g_iload_n X dX2_become_28 2 rfl ?_
    refine g_aald X 3 RX1 rfl hk_a3 dX2_become_29 h (fun a4 hk_a4 h => ?_)
    refine g_callVv X g_cX1 hk_a2 [.ref (g_ad x a4)] rfl (cwV 1 X.2.2.2.2.1 gX2_become_X1_become rfl rfl rfl hd_X1_become ⟨Nat.le_of_ble_eq_true rfl, Nat.le_of_ble_eq_true rfl⟩) (Nat.le_of_ble_eq_true rfl) dX2_become_30 h (fun q hq => ct_X1_become X.2.2.2.2.2.2.1 a2 a4 hk_a2 hk_a4 _ hq) (fun _ Sr5 h => ?_)
    refine g_iinc X [(2, _), (0, _), (1, _)] dX2_become_33 2 rfl rfl (by decide) rfl ?_
    refine g_goto X 10 dX2_become_36 (by decide) ?_
    cases h
    exact g_sub [1, 2, 0] _ rfl hc
set_option maxRecDepth 100000 in
set_option maxHeartbeats 400000 in
theorem vb_X2_become_49 {x : g_CX} {z : Unit × g_St} {fu : Nat} (X : g_X 90 x cX2_become RX2 4 wsX2_become rm_X2_become none) (v0 : Nat) (v1 : Nat) (v2 : Int32) (hk_v0 : v0 < 90 ∧ g_KC v0 = g_kX2) (hk_v1 : v1 < 90 ∧ g_KC v1 = g_kX2) (S : g_St) {r : (Int32 × g_St) ⊕ (g_St)} (h : b_X2_become_49 fu v0 v1 v2 S = some r) (hc : Sum.elim (fun t : Int32 × g_St => g_V g_KC 90 x 4 (g_qv g_KC 90 x z) t.2 49 [(0, .ref (g_ad x v0)), (1, .ref (g_ad x v1)), (2, .int (t.1))] []) (fun e : g_St => g_V g_KC 90 x 4 (g_qv g_KC 90 x z) e 91 [(0, .ref (g_ad x v0)), (1, .ref (g_ad x v1))] []) r) : g_V g_KC 90 x 4 (g_qv g_KC 90 x z) S 49 [(0, .ref (g_ad x v0)), (1, .ref (g_ad x v1)), (2, .int (v2))] [] := by
  unfold b_X2_become_49 at h
  refine g_iload_n X dX2_become_49 2 rfl ?_
  refine g_aload_n X dX2_become_50 0 rfl ?_
  refine g_geti X g_cX2 w_X2_become_inX2 3 (by decide) w_X2_become_29 hk_v0 rfl dX2_become_51 ?_
  refine g_icmp_ge X 91 dX2_become_54 (by decide) h (fun c_54 h => ?_) (fun c_54 h => ?_)
  · skip
    cases h
    exact g_sub [0, 1] _ rfl hc
  · skip
    refine g_aload_n X dX2_become_57 1 rfl ?_
    refine g_getr X g_cX2 w_X2_become_inX2 1 (by decide) w_X2_become_19 hk_v1 rfl dX2_become_58 h (fun a6 hk_a6 h => ?_)
    refine g_iload_n X dX2_become_61 2 rfl ?_
    refine g_aald X 4 RX0 rfl hk_a6 dX2_become_62 h (fun a7 hk_a7 h => ?_)
    refine g_astore_n X [(3, _), (0, _), (1, _), (2, _)] dX2_become_63 (by decide) rfl ?_
    refine g_aload_n X dX2_become_64 1 rfl ?_
    refine g_getr X g_cX2 w_X2_become_inX2 1 (by decide) w_X2_become_19 hk_v0 rfl dX2_become_65 h (fun a8 hk_a8 h => ?_)
    refine g_iload_n X dX2_become_68 3 rfl ?_
    refine g_aald X 4 RX0 rfl hk_a8 dX2_become_69 h (fun a9 hk_a9 h => ?_)
    refine g_aload_n X dX2_become_70 0 rfl ?_
    refine g_geti X g_cX0 w_X2_become_inX0 0 (by decide) w_X2_become_45 hk_a7 rfl dX2_become_71 ?_
    refine g_aload_n X dX2_become_74 0 rfl ?_
    refine g_geti X g_cX0 w_X2_become_inX0 1 (by decide) w_X2_become_48 hk_a7 rfl dX2_become_75 ?_
    refine g_aload_n X dX2_become_78 0 rfl ?_
    refine g_geti X g_cX0 w_X2_become_inX0 2 (by decide) w_X2_become_51 hk_a7 rfl dX2_become_79 ?_
    refine g_callVv X g_cX0 hk_a9 [.int ((S.1 a7 0)), .int ((S.1 a7 1)), .int ((S.1 a7 2))] rfl (cwV 3 X.2.2.2.2.1 gX2_become_X0_make rfl rfl rfl hd_X0_make ⟨Nat.le_of_ble_eq_true rfl, Nat.le_of_ble_eq_true rfl⟩) (Nat.le_of_ble_eq_true rfl) dX2_become_82 h (fun q hq => ct_X0_make X.2.2.2.2.2.2.1 a9 ((S.1 a7 0)) ((S.1 a7 1)) ((S.1 a7 2)) hk_a9 _ hq) (fun _ Sr10 h => ?_)
    refine g_iinc X [(2, _), (3, _), (0, _), (1, _)] dX2_become_85 3 rfl rfl (by decide) rfl ?_
    refine g_goto X 49 dX2_become_88 (by decide) ?_
    cases h
    exact g_sub [2, 3, 0] _ rfl hc
set_option maxRecDepth 100000 in
set_option maxHeartbeats 400000 in
theorem ct_X2_become {l : Launch} {D : va_G} {ad : Nat → Nat} {cy : Nat → ClassId} {zz : (Nat → Nat) × (Nat → Nat)} (hinj : ∀ i j, i < 90 → j < 90 → ad i = ad j → i = j) {fu : Nat} (o : Nat) (p0 : Nat) (hk_o : o < 90 ∧ g_KC o = g_kX2) (hk_p0 : p0 < 90 ∧ g_KC p0 = g_kX2) {S : g_St} (z : Unit × g_St) (h : f_X2_become fu o p0 S = some z) : g_Mv l g_KC 90 D ad cy zz yX2_become wsX2_become rm_X2_become [.ref (ad o), .ref (ad p0)] S z := by
  refine g_ofv hinj (cc := cX2_become) (maxL := 4) (ret := none) (lv := [(0, .ref (ad o)), (1, .ref (ad p0))]) (by decide) rfl (Nat.le_of_ble_eq_true rfl) rfl ?_
  intro x X hl hD ha hy hz
  subst hl hD ha hy hz
  unfold f_X2_become at h
  refine g_aload_n X dX2_become_0 0 rfl ?_
  refine g_aload_n X dX2_become_1 1 rfl ?_
  refine g_geti X g_cX2 w_X2_become_inX2 2 (by decide) w_X2_become_25 hk_p0 rfl dX2_become_2 ?_
  refine g_puti X g_cX2 w_X2_become_inX2 2 (by decide) w_X2_become_25 hk_o rfl rfl (t := .int) (by decide +kernel) rfl rfl dX2_become_5 ?_
  refine g_iconst X (v := 0) dX2_become_8 (by decide) ?_
  refine g_istore_n X [(2, _), (0, _), (1, _)] dX2_become_9 (by decide) rfl ?_
  obtain ⟨e, he, h⟩ := g_th_s h
  refine g_sub [1, 2, 0] _ rfl ?_
  refine g_lp_w (body := (fun t => b_X2_become_10 fu o p0 t.1 t.2)) (P := fun t : Int32 × g_St => g_V g_KC 90 x 4 (g_qv g_KC 90 x z) t.2 10 [(0, .ref (g_ad x o)), (1, .ref (g_ad x p0)), (2, .int (t.1))] []) (E := (fun e : g_St => g_V g_KC 90 x 4 (g_qv g_KC 90 x z) e 39 [(0, .ref (g_ad x o)), (1, .ref (g_ad x p0))] [])) (fun t r hb hc => vb_X2_become_10 X o p0 t.1 hk_o hk_p0 t.2 hb hc) fu ((0 : Int32), (g_u S.1 o 2 (S.1 p0 2), S.2)) e he ?_
  obtain ⟨S1, rfl⟩ : ∃ q, q = e := ⟨_, rfl⟩
  show g_V g_KC 90 x 4 (g_qv g_KC 90 x z) S1 39 [(0, .ref (g_ad x o)), (1, .ref (g_ad x p0))] []
  refine g_aload_n X dX2_become_39 0 rfl ?_
  refine g_aload_n X dX2_become_40 1 rfl ?_
  refine g_geti X g_cX2 w_X2_become_inX2 3 (by decide) w_X2_become_29 hk_p0 rfl dX2_become_41 ?_
  refine g_puti X g_cX2 w_X2_become_inX2 3 (by decide) w_X2_become_29 hk_o rfl rfl (t := .int) (by decide +kernel) rfl rfl dX2_become_44 ?_
  refine g_iconst X (v := 0) dX2_become_47 (by decide) ?_
  refine g_istore_n X [(2, _), (0, _), (1, _)] dX2_become_48 (by decide) rfl ?_
  obtain ⟨e, he, h⟩ := g_th_s h
  refine g_sub [1, 2, 0] _ rfl ?_
  refine g_lp_w (body := (fun t => b_X2_become_49 fu o p0 t.1 t.2)) (P := fun t : Int32 × g_St => g_V g_KC 90 x 4 (g_qv g_KC 90 x z) t.2 49 [(0, .ref (g_ad x o)), (1, .ref (g_ad x p0)), (2, .int (t.1))] []) (E := (fun e : g_St => g_V g_KC 90 x 4 (g_qv g_KC 90 x z) e 91 [(0, .ref (g_ad x o)), (1, .ref (g_ad x p0))] [])) (fun t r hb hc => vb_X2_become_49 X o p0 t.1 hk_o hk_p0 t.2 hb hc) fu ((0 : Int32), (g_u S1.1 o 3 (S1.1 p0 3), S1.2)) e he ?_
  obtain ⟨S2, rfl⟩ : ∃ q, q = e := ⟨_, rfl⟩
  show g_V g_KC 90 x 4 (g_qv g_KC 90 x z) S2 91 [(0, .ref (g_ad x o)), (1, .ref (g_ad x p0))] []
  refine g_aload_n X dX2_become_91 0 rfl ?_
  refine g_aload_n X dX2_become_92 1 rfl ?_
  refine g_geti X g_cX2 w_X2_become_inX2 4 (by decide) w_X2_become_32 hk_p0 rfl dX2_become_93 ?_
  refine g_puti X g_cX2 w_X2_become_inX2 4 (by decide) w_X2_become_32 hk_o rfl rfl (t := .int) (by decide +kernel) rfl rfl dX2_become_96 ?_
  refine g_aload_n X dX2_become_99 0 rfl ?_
  refine g_aload_n X dX2_become_100 1 rfl ?_
  refine g_geti X g_cX2 w_X2_become_inX2 5 (by decide) w_X2_become_35 hk_p0 rfl dX2_become_101 ?_
  refine g_puti X g_cX2 w_X2_become_inX2 5 (by decide) w_X2_become_35 hk_o rfl rfl (t := .int) (by decide +kernel) rfl rfl dX2_become_104 ?_
  refine g_aload_n X dX2_become_107 0 rfl ?_
  refine g_aload_n X dX2_become_108 1 rfl ?_
  refine g_geti X g_cX2 w_X2_become_inX2 6 (by decide) w_X2_become_38 hk_p0 rfl dX2_become_109 ?_
  refine g_puti X g_cX2 w_X2_become_inX2 6 (by decide) w_X2_become_38 hk_o rfl rfl (t := .int) (by decide +kernel) rfl rfl dX2_become_112 ?_
  exact g_vret X h dX2_become_115
abbrev rm_X2_countAnew : Room := { frames := 1, cells := 0, slots := 0, locals := 20 }
theorem hd_X2_countAnew : yX2_countAnew.cls = RX2 ∧ yX2_countAnew.cls ≠ "java/lang/invoke/MethodHandle" ∧ yX2_countAnew.cls ≠ "java/lang/invoke/VarHandle" ∧ (parseMethodDescriptor yX2_countAnew.desc).map (fun d => d.parameters.length) = some 0 := by decide +kernel
theorem w_X2_countAnew_35 : Cond.fieldLink RX2 35 "TokenDoors$Hall" "let" "I" ∈ wsX2_countAnew := by decide +kernel
theorem w_X2_countAnew_inX2 : ∀ w ∈ wsX20, w ∈ wsX2_countAnew := by decide +kernel
theorem w_X2_countAnew_38 : Cond.fieldLink RX2 38 "TokenDoors$Hall" "turned" "I" ∈ wsX2_countAnew := by decide +kernel
theorem w_X2_countAnew_25 : Cond.fieldLink RX2 25 "TokenDoors$Hall" "doorCount" "I" ∈ wsX2_countAnew := by decide +kernel
theorem w_X2_countAnew_11 : Cond.fieldLink RX2 11 "TokenDoors$Hall" "doors" "[LTokenDoors$Door;" ∈ wsX2_countAnew := by decide +kernel
def b_X2_countAnew_12 (fu : Nat) (v0 : Nat) (v1 : Int32) (S : g_St) : Option ((Int32 × g_St) ⊕ (g_St)) :=
  if (S.1 v0 2) ≤ v1 then (some (.inr S)) else (g_ld g_KC 90 (.inr (3, 4, true)) (S.2 v0 0) fun a1 => g_ix v1 4 fun i2 => g_ld g_KC 90 g_kX1 (S.2 a1 i2) fun a2 => g_bd (f_X1_countAnew fu a2 S) fun _ Sr3 => some (.inl ((v1 + 1), Sr3)))
def f_X2_countAnew (fu : Nat) (o : Nat) (S : g_St) : Option (Unit × g_St) :=
  g_th (g_lp (fun t => b_X2_countAnew_12 fu o t.1 t.2) fu ((0 : Int32), (g_u (g_u S.1 o 5 (0 : Int32)) o 6 (0 : Int32), S.2))) fun e => match e with | S1 => some ((), S1)
set_option maxRecDepth 100000 in
set_option maxHeartbeats 400000 in
theorem vb_X2_countAnew_12 {x : g_CX} {z : Unit × g_St} {fu : Nat} (X : g_X 90 x cX2_countAnew RX2 2 wsX2_countAnew rm_X2_countAnew none) (v0 : Nat) (v1 : Int32) (hk_v0 : v0 < 90 ∧ g_KC v0 = g_kX2) (S : g_St) {r : (Int32 × g_St) ⊕ (g_St)} (h : b_X2_countAnew_12 fu v0 v1 S = some r) (hc : Sum.elim (fun t : Int32 × g_St => g_V g_KC 90 x 2 (g_qv g_KC 90 x z) t.2 12 [(0, .ref (g_ad x v0)), (1, .int (t.1))] []) (fun e : g_St => g_V g_KC 90 x 2 (g_qv g_KC 90 x z) e 35 [] []) r) : g_V g_KC 90 x 2 (g_qv g_KC 90 x z) S 12 [(0, .ref (g_ad x v0)), (1, .int (v1))] [] := by
  unfold b_X2_countAnew_12 at h
  refine g_iload_n X dX2_countAnew_12 1 rfl ?_
  refine g_aload_n X dX2_countAnew_13 0 rfl ?_
  refine g_geti X g_cX2 w_X2_countAnew_inX2 2 (by decide) w_X2_countAnew_25 hk_v0 rfl dX2_countAnew_14 ?_
  refine g_icmp_ge X 35 dX2_countAnew_17 (by decide) h (fun c_17 h => ?_) (fun c_17 h => ?_)
  · skip
    cases h
    exact g_sub [] _ rfl hc
  · skip
    refine g_aload_n X dX2_countAnew_20 0 rfl ?_
    refine g_getr X g_cX2 w_X2_countAnew_inX2 0 (by decide) w_X2_countAnew_11 hk_v0 rfl dX2_countAnew_21 h (fun a1 hk_a1 h => ?_)
    refine g_iload_n X dX2_countAnew_24 1 rfl ?_
    refine g_aald X 3 RX1 rfl hk_a1 dX2_countAnew_25 h (fun a2 hk_a2 h => ?_)
    refine g_callVv X g_cX1 hk_a2 [] rfl (cwV 0 X.2.2.2.2.1 gX2_countAnew_X1_countAnew rfl rfl rfl hd_X1_countAnew ⟨Nat.le_of_ble_eq_true rfl, Nat.le_of_ble_eq_true rfl⟩) (Nat.le_of_ble_eq_true rfl) dX2_countAnew_26 h (fun q hq => ct_X1_countAnew X.2.2.2.2.2.2.1 a2 hk_a2 _ hq) (fun _ Sr3 h => ?_)
    refine g_iinc X [(1, _), (0, _)] dX2_countAnew_29 1 rfl rfl (by decide) rfl ?_
    refine g_goto X 12 dX2_countAnew_32 (by decide) ?_
    cases h
    exact g_sub [1, 0] _ rfl hc
set_option maxRecDepth 100000 in
set_option maxHeartbeats 400000 in
theorem ct_X2_countAnew {l : Launch} {D : va_G} {ad : Nat → Nat} {cy : Nat → ClassId} {zz : (Nat → Nat) × (Nat → Nat)} (hinj : ∀ i j, i < 90 → j < 90 → ad i = ad j → i = j) {fu : Nat} (o : Nat) (hk_o : o < 90 ∧ g_KC o = g_kX2) {S : g_St} (z : Unit × g_St) (h : f_X2_countAnew fu o S = some z) : g_Mv l g_KC 90 D ad cy zz yX2_countAnew wsX2_countAnew rm_X2_countAnew [.ref (ad o)] S z := by
  refine g_ofv hinj (cc := cX2_countAnew) (maxL := 2) (ret := none) (lv := [(0, .ref (ad o))]) (by decide) rfl (Nat.le_of_ble_eq_true rfl) rfl ?_
  intro x X hl hD ha hy hz
  subst hl hD ha hy hz
  unfold f_X2_countAnew at h
  refine g_aload_n X dX2_countAnew_0 0 rfl ?_
  refine g_iconst X (v := 0) dX2_countAnew_1 (by decide) ?_
  refine g_puti X g_cX2 w_X2_countAnew_inX2 5 (by decide) w_X2_countAnew_35 hk_o rfl rfl (t := .int) (by decide +kernel) rfl rfl dX2_countAnew_2 ?_
  refine g_aload_n X dX2_countAnew_5 0 rfl ?_
  refine g_iconst X (v := 0) dX2_countAnew_6 (by decide) ?_
  refine g_puti X g_cX2 w_X2_countAnew_inX2 6 (by decide) w_X2_countAnew_38 hk_o rfl rfl (t := .int) (by decide +kernel) rfl rfl dX2_countAnew_7 ?_
  refine g_iconst X (v := 0) dX2_countAnew_10 (by decide) ?_
  refine g_istore_n X [(1, _), (0, _)] dX2_countAnew_11 (by decide) rfl ?_
  obtain ⟨e, he, h⟩ := g_th_s h
  refine g_sub [1, 0] _ rfl ?_
  refine g_lp_w (body := (fun t => b_X2_countAnew_12 fu o t.1 t.2)) (P := fun t : Int32 × g_St => g_V g_KC 90 x 2 (g_qv g_KC 90 x z) t.2 12 [(0, .ref (g_ad x o)), (1, .int (t.1))] []) (E := (fun e : g_St => g_V g_KC 90 x 2 (g_qv g_KC 90 x z) e 35 [] [])) (fun t r hb hc => vb_X2_countAnew_12 X o t.1 hk_o t.2 hb hc) fu ((0 : Int32), (g_u (g_u S.1 o 5 (0 : Int32)) o 6 (0 : Int32), S.2)) e he ?_
  obtain ⟨S1, rfl⟩ : ∃ q, q = e := ⟨_, rfl⟩
  show g_V g_KC 90 x 2 (g_qv g_KC 90 x z) S1 35 [] []
  exact g_vret X h dX2_countAnew_35
abbrev rm_X2_addDoor : Room := { frames := 1, cells := 0, slots := 0, locals := 23 }
theorem hd_X2_addDoor : yX2_addDoor.cls = RX2 ∧ yX2_addDoor.cls ≠ "java/lang/invoke/MethodHandle" ∧ yX2_addDoor.cls ≠ "java/lang/invoke/VarHandle" ∧ (parseMethodDescriptor yX2_addDoor.desc).map (fun d => d.parameters.length) = some 3 := by decide +kernel
theorem w_X2_addDoor_25 : Cond.fieldLink RX2 25 "TokenDoors$Hall" "doorCount" "I" ∈ wsX2_addDoor := by decide +kernel
theorem w_X2_addDoor_inX2 : ∀ w ∈ wsX20, w ∈ wsX2_addDoor := by decide +kernel
theorem w_X2_addDoor_11 : Cond.fieldLink RX2 11 "TokenDoors$Hall" "doors" "[LTokenDoors$Door;" ∈ wsX2_addDoor := by decide +kernel
def f_X2_addDoor (fu : Nat) (o : Nat) (p0 : Int32) (p1 : Int32) (p2 : Int32) (S : g_St) : Option (Int32 × g_St) :=
  if (S.1 o 2) < (4 : Int32) then (g_ld g_KC 90 (.inr (3, 4, true)) (S.2 o 0) fun a1 => g_ix (S.1 o 2) 4 fun i2 => g_ld g_KC 90 g_kX1 (S.2 a1 i2) fun a2 => g_bd (f_X1_make fu a2 p0 p1 p2 S) fun _ Sr3 => g_zb (1 : Int32) (some ((1 : Int32), (g_u Sr3.1 o 2 ((Sr3.1 o 2) + (1 : Int32)), Sr3.2)))) else (g_zb (0 : Int32) (some ((0 : Int32), S)))
set_option maxRecDepth 100000 in
set_option maxHeartbeats 400000 in
theorem ct_X2_addDoor {l : Launch} {D : va_G} {ad : Nat → Nat} {cy : Nat → ClassId} {zz : (Nat → Nat) × (Nat → Nat)} (hinj : ∀ i j, i < 90 → j < 90 → ad i = ad j → i = j) {fu : Nat} (o : Nat) (p0 : Int32) (p1 : Int32) (p2 : Int32) (hk_o : o < 90 ∧ g_KC o = g_kX2) {S : g_St} (z : Int32 × g_St) (h : f_X2_addDoor fu o p0 p1 p2 S = some z) : g_Mi l g_KC 90 D ad cy zz yX2_addDoor wsX2_addDoor rm_X2_addDoor [.ref (ad o), .int (p0), .int (p1), .int (p2)] S z := by
  refine g_ofi hinj (cc := cX2_addDoor) (maxL := 4) (ret := (some .boolean)) (lv := [(0, .ref (ad o)), (1, .int (p0)), (2, .int (p1)), (3, .int (p2))]) (by decide) rfl (Nat.le_of_ble_eq_true rfl) rfl ?_
  intro x X hl hD ha hy hz
  subst hl hD ha hy hz
  unfold f_X2_addDoor at h
  refine g_aload_n X dX2_addDoor_0 0 rfl ?_
  refine g_geti X g_cX2 w_X2_addDoor_inX2 2 (by decide) w_X2_addDoor_25 hk_o rfl dX2_addDoor_1 ?_
  refine g_iconst X (v := 4) dX2_addDoor_4 (by decide) ?_
  refine g_icmp_lt X 10 dX2_addDoor_5 (by decide) h (fun c_5 h => ?_) (fun c_5 h => ?_)
  · skip
    refine g_aload_n X dX2_addDoor_10 0 rfl ?_
    refine g_getr X g_cX2 w_X2_addDoor_inX2 0 (by decide) w_X2_addDoor_11 hk_o rfl dX2_addDoor_11 h (fun a1 hk_a1 h => ?_)
    refine g_aload_n X dX2_addDoor_14 0 rfl ?_
    refine g_geti X g_cX2 w_X2_addDoor_inX2 2 (by decide) w_X2_addDoor_25 hk_o rfl dX2_addDoor_15 ?_
    refine g_aald X 3 RX1 rfl hk_a1 dX2_addDoor_18 h (fun a2 hk_a2 h => ?_)
    refine g_iload_n X dX2_addDoor_19 1 rfl ?_
    refine g_iload_n X dX2_addDoor_20 2 rfl ?_
    refine g_iload_n X dX2_addDoor_21 3 rfl ?_
    refine g_callVv X g_cX1 hk_a2 [.int (p0), .int (p1), .int (p2)] rfl (cwV 3 X.2.2.2.2.1 gX2_addDoor_X1_make rfl rfl rfl hd_X1_make ⟨Nat.le_of_ble_eq_true rfl, Nat.le_of_ble_eq_true rfl⟩) (Nat.le_of_ble_eq_true rfl) dX2_addDoor_22 h (fun q hq => ct_X1_make X.2.2.2.2.2.2.1 a2 p0 p1 p2 hk_a2 _ hq) (fun _ Sr3 h => ?_)
    refine g_aload_n X dX2_addDoor_25 0 rfl ?_
    refine g_dup X dX2_addDoor_26 rfl ?_
    refine g_geti X g_cX2 w_X2_addDoor_inX2 2 (by decide) w_X2_addDoor_25 hk_o rfl dX2_addDoor_27 ?_
    refine g_iconst X (v := 1) dX2_addDoor_30 (by decide) ?_
    refine g_iadd X dX2_addDoor_31 ?_
    refine g_puti X g_cX2 w_X2_addDoor_inX2 2 (by decide) w_X2_addDoor_25 hk_o rfl rfl (t := .int) (by decide +kernel) rfl rfl dX2_addDoor_32 ?_
    refine g_iconst X (v := 1) dX2_addDoor_35 (by decide) ?_
    exact g_zret X h dX2_addDoor_36
  · skip
    refine g_iconst X (v := 0) dX2_addDoor_8 (by decide) ?_
    exact g_zret X h dX2_addDoor_9
abbrev rm_X2_addCrowd : Room := { frames := 1, cells := 0, slots := 0, locals := 23 }
theorem hd_X2_addCrowd : yX2_addCrowd.cls = RX2 ∧ yX2_addCrowd.cls ≠ "java/lang/invoke/MethodHandle" ∧ yX2_addCrowd.cls ≠ "java/lang/invoke/VarHandle" ∧ (parseMethodDescriptor yX2_addCrowd.desc).map (fun d => d.parameters.length) = some 3 := by decide +kernel
theorem w_X2_addCrowd_29 : Cond.fieldLink RX2 29 "TokenDoors$Hall" "crowdCount" "I" ∈ wsX2_addCrowd := by decide +kernel
theorem w_X2_addCrowd_inX2 : ∀ w ∈ wsX20, w ∈ wsX2_addCrowd := by decide +kernel
theorem w_X2_addCrowd_19 : Cond.fieldLink RX2 19 "TokenDoors$Hall" "crowds" "[LTokenDoors$Crowd;" ∈ wsX2_addCrowd := by decide +kernel
def f_X2_addCrowd (fu : Nat) (o : Nat) (p0 : Int32) (p1 : Int32) (p2 : Int32) (S : g_St) : Option (Int32 × g_St) :=
  if (S.1 o 3) < (8 : Int32) then (g_ld g_KC 90 (.inr (4, 8, true)) (S.2 o 1) fun a1 => g_ix (S.1 o 3) 8 fun i2 => g_ld g_KC 90 g_kX0 (S.2 a1 i2) fun a2 => g_bd (f_X0_make fu a2 p0 p1 p2 S) fun _ Sr3 => g_zb (1 : Int32) (some ((1 : Int32), (g_u Sr3.1 o 3 ((Sr3.1 o 3) + (1 : Int32)), Sr3.2)))) else (g_zb (0 : Int32) (some ((0 : Int32), S)))
set_option maxRecDepth 100000 in
set_option maxHeartbeats 400000 in
theorem ct_X2_addCrowd {l : Launch} {D : va_G} {ad : Nat → Nat} {cy : Nat → ClassId} {zz : (Nat → Nat) × (Nat → Nat)} (hinj : ∀ i j, i < 90 → j < 90 → ad i = ad j → i = j) {fu : Nat} (o : Nat) (p0 : Int32) (p1 : Int32) (p2 : Int32) (hk_o : o < 90 ∧ g_KC o = g_kX2) {S : g_St} (z : Int32 × g_St) (h : f_X2_addCrowd fu o p0 p1 p2 S = some z) : g_Mi l g_KC 90 D ad cy zz yX2_addCrowd wsX2_addCrowd rm_X2_addCrowd [.ref (ad o), .int (p0), .int (p1), .int (p2)] S z := by
  refine g_ofi hinj (cc := cX2_addCrowd) (maxL := 4) (ret := (some .boolean)) (lv := [(0, .ref (ad o)), (1, .int (p0)), (2, .int (p1)), (3, .int (p2))]) (by decide) rfl (Nat.le_of_ble_eq_true rfl) rfl ?_
  intro x X hl hD ha hy hz
  subst hl hD ha hy hz
  unfold f_X2_addCrowd at h
  refine g_aload_n X dX2_addCrowd_0 0 rfl ?_
  refine g_geti X g_cX2 w_X2_addCrowd_inX2 3 (by decide) w_X2_addCrowd_29 hk_o rfl dX2_addCrowd_1 ?_
  refine g_bipush X (v := (8)) dX2_addCrowd_4 (by decide) ?_
  refine g_icmp_lt X 11 dX2_addCrowd_6 (by decide) h (fun c_6 h => ?_) (fun c_6 h => ?_)
  · skip
    refine g_aload_n X dX2_addCrowd_11 0 rfl ?_
    refine g_getr X g_cX2 w_X2_addCrowd_inX2 1 (by decide) w_X2_addCrowd_19 hk_o rfl dX2_addCrowd_12 h (fun a1 hk_a1 h => ?_)
    refine g_aload_n X dX2_addCrowd_15 0 rfl ?_
    refine g_geti X g_cX2 w_X2_addCrowd_inX2 3 (by decide) w_X2_addCrowd_29 hk_o rfl dX2_addCrowd_16 ?_
    refine g_aald X 4 RX0 rfl hk_a1 dX2_addCrowd_19 h (fun a2 hk_a2 h => ?_)
    refine g_iload_n X dX2_addCrowd_20 1 rfl ?_
    refine g_iload_n X dX2_addCrowd_21 2 rfl ?_
    refine g_iload_n X dX2_addCrowd_22 3 rfl ?_
    refine g_callVv X g_cX0 hk_a2 [.int (p0), .int (p1), .int (p2)] rfl (cwV 3 X.2.2.2.2.1 gX2_addCrowd_X0_make rfl rfl rfl hd_X0_make ⟨Nat.le_of_ble_eq_true rfl, Nat.le_of_ble_eq_true rfl⟩) (Nat.le_of_ble_eq_true rfl) dX2_addCrowd_23 h (fun q hq => ct_X0_make X.2.2.2.2.2.2.1 a2 p0 p1 p2 hk_a2 _ hq) (fun _ Sr3 h => ?_)
    refine g_aload_n X dX2_addCrowd_26 0 rfl ?_
    refine g_dup X dX2_addCrowd_27 rfl ?_
    refine g_geti X g_cX2 w_X2_addCrowd_inX2 3 (by decide) w_X2_addCrowd_29 hk_o rfl dX2_addCrowd_28 ?_
    refine g_iconst X (v := 1) dX2_addCrowd_31 (by decide) ?_
    refine g_iadd X dX2_addCrowd_32 ?_
    refine g_puti X g_cX2 w_X2_addCrowd_inX2 3 (by decide) w_X2_addCrowd_29 hk_o rfl rfl (t := .int) (by decide +kernel) rfl rfl dX2_addCrowd_33 ?_
    refine g_iconst X (v := 1) dX2_addCrowd_36 (by decide) ?_
    exact g_zret X h dX2_addCrowd_37
  · skip
    refine g_iconst X (v := 0) dX2_addCrowd_9 (by decide) ?_
    exact g_zret X h dX2_addCrowd_10
abbrev rm_X2_exchange : Room := { frames := 0, cells := 0, slots := 0, locals := 0 }
theorem hd_X2_exchange : yX2_exchange.cls = RX2 ∧ yX2_exchange.cls ≠ "java/lang/invoke/MethodHandle" ∧ yX2_exchange.cls ≠ "java/lang/invoke/VarHandle" ∧ (parseMethodDescriptor yX2_exchange.desc).map (fun d => d.parameters.length) = some 2 := by decide +kernel
theorem w_X2_exchange_11 : Cond.fieldLink RX2 11 "TokenDoors$Hall" "doors" "[LTokenDoors$Door;" ∈ wsX2_exchange := by decide +kernel
theorem w_X2_exchange_inX2 : ∀ w ∈ wsX20, w ∈ wsX2_exchange := by decide +kernel
def f_X2_exchange (fu : Nat) (o : Nat) (p0 : Int32) (p1 : Int32) (S : g_St) : Option (Unit × g_St) :=
  g_ld g_KC 90 (.inr (3, 4, true)) (S.2 o 0) fun a1 => g_ix p0 4 fun i2 => g_ld g_KC 90 g_kX1 (S.2 a1 i2) fun a2 => g_ld g_KC 90 (.inr (3, 4, true)) (S.2 o 0) fun a3 => g_ld g_KC 90 (.inr (3, 4, true)) (S.2 o 0) fun a4 => g_ix p1 4 fun i5 => g_ld g_KC 90 g_kX1 (S.2 a4 i5) fun a5 => g_ix p0 4 fun i6 => g_ld g_KC 90 (.inr (3, 4, true)) ((g_u S.2 a3 i6 (some a5)) o 0) fun a7 => g_ix p1 4 fun i8 => some ((), (S.1, g_u (g_u S.2 a3 i6 (some a5)) a7 i8 (some a2)))
set_option maxRecDepth 100000 in
set_option maxHeartbeats 400000 in
theorem ct_X2_exchange {l : Launch} {D : va_G} {ad : Nat → Nat} {cy : Nat → ClassId} {zz : (Nat → Nat) × (Nat → Nat)} (hinj : ∀ i j, i < 90 → j < 90 → ad i = ad j → i = j) {fu : Nat} (o : Nat) (p0 : Int32) (p1 : Int32) (hk_o : o < 90 ∧ g_KC o = g_kX2) {S : g_St} (z : Unit × g_St) (h : f_X2_exchange fu o p0 p1 S = some z) : g_Mv l g_KC 90 D ad cy zz yX2_exchange wsX2_exchange rm_X2_exchange [.ref (ad o), .int (p0), .int (p1)] S z := by
  refine g_ofv hinj (cc := cX2_exchange) (maxL := 4) (ret := none) (lv := [(0, .ref (ad o)), (1, .int (p0)), (2, .int (p1))]) (by decide) rfl (Nat.le_of_ble_eq_true rfl) rfl ?_
  intro x X hl hD ha hy hz
  subst hl hD ha hy hz
  unfold f_X2_exchange at h
  refine g_aload_n X dX2_exchange_0 0 rfl ?_
  refine g_getr X g_cX2 w_X2_exchange_inX2 0 (by decide) w_X2_exchange_11 hk_o rfl dX2_exchange_1 h (fun a1 hk_a1 h => ?_)
  refine g_iload_n X dX2_exchange_4 1 rfl ?_
  refine g_aald X 3 RX1 rfl hk_a1 dX2_exchange_5 h (fun a2 hk_a2 h => ?_)
  refine g_astore_n X [(3, _), (0, _), (1, _), (2, _)] dX2_exchange_6 (by decide) rfl ?_
  refine g_aload_n X dX2_exchange_7 1 rfl ?_
  refine g_getr X g_cX2 w_X2_exchange_inX2 0 (by decide) w_X2_exchange_11 hk_o rfl dX2_exchange_8 h (fun a3 hk_a3 h => ?_)
  refine g_iload_n X dX2_exchange_11 2 rfl ?_
  refine g_aload_n X dX2_exchange_12 1 rfl ?_
  refine g_getr X g_cX2 w_X2_exchange_inX2 0 (by decide) w_X2_exchange_11 hk_o rfl dX2_exchange_13 h (fun a4 hk_a4 h => ?_)
  refine g_iload_n X dX2_exchange_16 3 rfl ?_
  refine g_aald X 3 RX1 rfl hk_a4 dX2_exchange_17 h (fun a5 hk_a5 h => ?_)
  refine g_aast X 3 g_cX1 rfl hk_a3 hk_a5 dX2_exchange_18 h (fun i6 _ h => ?_)
  refine g_aload_n X dX2_exchange_19 1 rfl ?_
  refine g_getr X g_cX2 w_X2_exchange_inX2 0 (by decide) w_X2_exchange_11 hk_o rfl dX2_exchange_20 h (fun a7 hk_a7 h => ?_)
  refine g_iload_n X dX2_exchange_23 3 rfl ?_
  refine g_aload_n X dX2_exchange_24 0 rfl ?_
  refine g_aast X 3 g_cX1 rfl hk_a7 hk_a2 dX2_exchange_25 h (fun i8 _ h => ?_)
  exact g_vret X h dX2_exchange_26
abbrev rm_X2_comers : Room := { frames := 1, cells := 0, slots := 0, locals := 21 }
theorem hd_X2_comers : yX2_comers.cls = RX2 ∧ yX2_comers.cls ≠ "java/lang/invoke/MethodHandle" ∧ yX2_comers.cls ≠ "java/lang/invoke/VarHandle" ∧ (parseMethodDescriptor yX2_comers.desc).map (fun d => d.parameters.length) = some 0 := by decide +kernel
theorem w_X2_comers_29 : Cond.fieldLink RX2 29 "TokenDoors$Hall" "crowdCount" "I" ∈ wsX2_comers := by decide +kernel
theorem w_X2_comers_inX2 : ∀ w ∈ wsX20, w ∈ wsX2_comers := by decide +kernel
theorem w_X2_comers_19 : Cond.fieldLink RX2 19 "TokenDoors$Hall" "crowds" "[LTokenDoors$Crowd;" ∈ wsX2_comers := by decide +kernel
theorem w_X2_comers_32 : Cond.fieldLink RX2 32 "TokenDoors$Hall" "tick" "I" ∈ wsX2_comers := by decide +kernel
theorem w_X2_comers_48 : Cond.fieldLink RX2 48 "TokenDoors$Crowd" "many" "I" ∈ wsX2_comers := by decide +kernel
theorem w_X2_comers_inX0 : ∀ w ∈ wsX00, w ∈ wsX2_comers := by decide +kernel
def j_X2_comers_42_in4 (fu : Nat) (v0 : Nat) (v2 : Int32) (s0 : Int32) (s1 : Int32) (S : g_St) : Option ((Int32 × Int32 × g_St) ⊕ (Int32 × g_St)) :=
  some (.inl ((s0 + s1), (v2 + 1), S))
def b_X2_comers_4 (fu : Nat) (v0 : Nat) (v1 : Int32) (v2 : Int32) (S : g_St) : Option ((Int32 × Int32 × g_St) ⊕ (Int32 × g_St)) :=
  if (S.1 v0 3) ≤ v2 then (some (.inr (v1, S))) else (g_ld g_KC 90 (.inr (4, 8, true)) (S.2 v0 1) fun a1 => g_ix v2 8 fun i2 => g_ld g_KC 90 g_kX0 (S.2 a1 i2) fun a2 => g_bd (f_X0_comesAt fu a2 ((S.1 v0 4)) S) fun r3 Sr3 => if r3 = 0 then (j_X2_comers_42_in4 fu v0 v2 v1 ((0 : Int32)) Sr3) else (g_ld g_KC 90 (.inr (4, 8, true)) (Sr3.2 v0 1) fun a4 => g_ix v2 8 fun i5 => g_ld g_KC 90 g_kX0 (Sr3.2 a4 i5) fun a5 => j_X2_comers_42_in4 fu v0 v2 v1 ((Sr3.1 a5 1)) Sr3))
def f_X2_comers (fu : Nat) (o : Nat) (S : g_St) : Option (Int32 × g_St) :=
  g_th (g_lp (fun t => b_X2_comers_4 fu o t.1 t.2.1 t.2.2) fu ((0 : Int32), (0 : Int32), S)) fun e => match e with | (w1_1, S1) => some (w1_1, S1)
set_option maxRecDepth 100000 in
set_option maxHeartbeats 400000 in
theorem vj_X2_comers_42_in4 {x : g_CX} {z : Int32 × g_St} {fu : Nat} (X : g_X 90 x cX2_comers RX2 3 wsX2_comers rm_X2_comers (some .int)) (v0 : Nat) (v2 : Int32) (s0 : Int32) (s1 : Int32) (hk_v0 : v0 < 90 ∧ g_KC v0 = g_kX2) (S : g_St) {r : (Int32 × Int32 × g_St) ⊕ (Int32 × g_St)} (h : j_X2_comers_42_in4 fu v0 v2 s0 s1 S = some r) (hc : Sum.elim (fun t : Int32 × Int32 × g_St => g_V g_KC 90 x 3 (g_qi g_KC 90 x z) t.2.2 4 [(0, .ref (g_ad x v0)), (1, .int (t.1)), (2, .int (t.2.1))] []) (fun e : Int32 × g_St => g_V g_KC 90 x 3 (g_qi g_KC 90 x z) e.2 50 [(1, .int (e.1))] []) r) : g_V g_KC 90 x 3 (g_qi g_KC 90 x z) S 42 [(0, .ref (g_ad x v0)), (2, .int (v2))] [.int (s1), .int (s0)] := by
  unfold j_X2_comers_42_in4 at h
  refine g_iadd X dX2_comers_42 ?_
  refine g_istore_n X [(1, _), (0, _), (2, _)] dX2_comers_43 (by decide) rfl ?_
  refine g_iinc X [(2, _), (1, _), (0, _)] dX2_comers_44 2 rfl rfl (by decide) rfl ?_
  refine g_goto X 4 dX2_comers_47 (by decide) ?_
  cases h
  exact g_sub [2, 1, 0] _ rfl hc
set_option maxRecDepth 100000 in
set_option maxHeartbeats 400000 in
theorem vb_X2_comers_4 {x : g_CX} {z : Int32 × g_St} {fu : Nat} (X : g_X 90 x cX2_comers RX2 3 wsX2_comers rm_X2_comers (some .int)) (v0 : Nat) (v1 : Int32) (v2 : Int32) (hk_v0 : v0 < 90 ∧ g_KC v0 = g_kX2) (S : g_St) {r : (Int32 × Int32 × g_St) ⊕ (Int32 × g_St)} (h : b_X2_comers_4 fu v0 v1 v2 S = some r) (hc : Sum.elim (fun t : Int32 × Int32 × g_St => g_V g_KC 90 x 3 (g_qi g_KC 90 x z) t.2.2 4 [(0, .ref (g_ad x v0)), (1, .int (t.1)), (2, .int (t.2.1))] []) (fun e : Int32 × g_St => g_V g_KC 90 x 3 (g_qi g_KC 90 x z) e.2 50 [(1, .int (e.1))] []) r) : g_V g_KC 90 x 3 (g_qi g_KC 90 x z) S 4 [(0, .ref (g_ad x v0)), (1, .int (v1)), (2, .int (v2))] [] := by
  unfold b_X2_comers_4 at h
  refine g_iload_n X dX2_comers_4 2 rfl ?_
  refine g_aload_n X dX2_comers_5 0 rfl ?_
  refine g_geti X g_cX2 w_X2_comers_inX2 3 (by decide) w_X2_comers_29 hk_v0 rfl dX2_comers_6 ?_
  refine g_icmp_ge X 50 dX2_comers_9 (by decide) h (fun c_9 h => ?_) (fun c_9 h => ?_)
  · skip
    cases h
    exact g_sub [1] _ rfl hc
  · skip
    refine g_iload_n X dX2_comers_12 1 rfl ?_
    refine g_aload_n X dX2_comers_13 0 rfl ?_
    refine g_getr X g_cX2 w_X2_comers_inX2 1 (by decide) w_X2_comers_19 hk_v0 rfl dX2_comers_14 h (fun a1 hk_a1 h => ?_)
    refine g_iload_n X dX2_comers_17 2 rfl ?_
    refine g_aald X 4 RX0 rfl hk_a1 dX2_comers_18 h (fun a2 hk_a2 h => ?_)
    refine g_aload_n X dX2_comers_19 0 rfl ?_
    refine g_geti X g_cX2 w_X2_comers_inX2 4 (by decide) w_X2_comers_32 hk_v0 rfl dX2_comers_20 ?_
    refine g_callVi X g_cX0 hk_a2 [.int ((S.1 v0 4))] rfl (cwV 1 X.2.2.2.2.1 gX2_comers_X0_comesAt rfl rfl rfl hd_X0_comesAt ⟨Nat.le_of_ble_eq_true rfl, Nat.le_of_ble_eq_true rfl⟩) (Nat.le_of_ble_eq_true rfl) dX2_comers_23 h (fun q hq => ct_X0_comesAt X.2.2.2.2.2.2.1 a2 ((S.1 v0 4)) hk_a2 _ hq) (fun r3 Sr3 h => ?_)
    refine g_if_eq X 41 dX2_comers_26 (by decide) h (fun c_26 h => ?_) (fun c_26 h => ?_)
    · skip
      refine g_iconst X (v := 0) dX2_comers_41 (by decide) ?_
      refine g_sub [0, 2] _ rfl ?_
      exact vj_X2_comers_42_in4 X v0 v2 v1 ((0 : Int32)) hk_v0 _ h hc
    · skip
      refine g_aload_n X dX2_comers_29 0 rfl ?_
      refine g_getr X g_cX2 w_X2_comers_inX2 1 (by decide) w_X2_comers_19 hk_v0 rfl dX2_comers_30 h (fun a4 hk_a4 h => ?_)
      refine g_iload_n X dX2_comers_33 2 rfl ?_
      refine g_aald X 4 RX0 rfl hk_a4 dX2_comers_34 h (fun a5 hk_a5 h => ?_)
      refine g_geti X g_cX0 w_X2_comers_inX0 1 (by decide) w_X2_comers_48 hk_a5 rfl dX2_comers_35 ?_
      refine g_goto X 42 dX2_comers_38 (by decide) ?_
      refine g_sub [0, 2] _ rfl ?_
      exact vj_X2_comers_42_in4 X v0 v2 v1 ((Sr3.1 a5 1)) hk_v0 _ h hc
set_option maxRecDepth 100000 in
set_option maxHeartbeats 400000 in
theorem ct_X2_comers {l : Launch} {D : va_G} {ad : Nat → Nat} {cy : Nat → ClassId} {zz : (Nat → Nat) × (Nat → Nat)} (hinj : ∀ i j, i < 90 → j < 90 → ad i = ad j → i = j) {fu : Nat} (o : Nat) (hk_o : o < 90 ∧ g_KC o = g_kX2) {S : g_St} (z : Int32 × g_St) (h : f_X2_comers fu o S = some z) : g_Mi l g_KC 90 D ad cy zz yX2_comers wsX2_comers rm_X2_comers [.ref (ad o)] S z := by
  refine g_ofi hinj (cc := cX2_comers) (maxL := 3) (ret := (some .int)) (lv := [(0, .ref (ad o))]) (by decide) rfl (Nat.le_of_ble_eq_true rfl) rfl ?_
  intro x X hl hD ha hy hz
  subst hl hD ha hy hz
  unfold f_X2_comers at h
  refine g_iconst X (v := 0) dX2_comers_0 (by decide) ?_
  refine g_istore_n X [(1, _), (0, _)] dX2_comers_1 (by decide) rfl ?_
  refine g_iconst X (v := 0) dX2_comers_2 (by decide) ?_
  refine g_istore_n X [(2, _), (1, _), (0, _)] dX2_comers_3 (by decide) rfl ?_
  obtain ⟨e, he, h⟩ := g_th_s h
  refine g_sub [2, 1, 0] _ rfl ?_
  refine g_lp_w (body := (fun t => b_X2_comers_4 fu o t.1 t.2.1 t.2.2)) (P := fun t : Int32 × Int32 × g_St => g_V g_KC 90 x 3 (g_qi g_KC 90 x z) t.2.2 4 [(0, .ref (g_ad x o)), (1, .int (t.1)), (2, .int (t.2.1))] []) (E := (fun e : Int32 × g_St => g_V g_KC 90 x 3 (g_qi g_KC 90 x z) e.2 50 [(1, .int (e.1))] [])) (fun t r hb hc => vb_X2_comers_4 X o t.1 t.2.1 hk_o t.2.2 hb hc) fu ((0 : Int32), (0 : Int32), S) e he ?_
  obtain ⟨w1_1, S1⟩ := e
  show g_V g_KC 90 x 3 (g_qi g_KC 90 x z) S1 50 [(1, .int (w1_1))] []
  refine g_iload_n X dX2_comers_50 0 rfl ?_
  exact g_iret X h dX2_comers_51
abbrev rm_X2_letters : Room := { frames := 1, cells := 0, slots := 0, locals := 20 }
theorem hd_X2_letters : yX2_letters.cls = RX2 ∧ yX2_letters.cls ≠ "java/lang/invoke/MethodHandle" ∧ yX2_letters.cls ≠ "java/lang/invoke/VarHandle" ∧ (parseMethodDescriptor yX2_letters.desc).map (fun d => d.parameters.length) = some 0 := by decide +kernel
theorem w_X2_letters_25 : Cond.fieldLink RX2 25 "TokenDoors$Hall" "doorCount" "I" ∈ wsX2_letters := by decide +kernel
theorem w_X2_letters_inX2 : ∀ w ∈ wsX20, w ∈ wsX2_letters := by decide +kernel
theorem w_X2_letters_11 : Cond.fieldLink RX2 11 "TokenDoors$Hall" "doors" "[LTokenDoors$Door;" ∈ wsX2_letters := by decide +kernel
def j_X2_letters_32_in4 (fu : Nat) (v0 : Nat) (v2 : Int32) (s0 : Int32) (s1 : Int32) (S : g_St) : Option ((Int32 × Int32 × g_St) ⊕ (Int32 × g_St)) :=
  some (.inl ((s0 ||| s1), (v2 + 1), S))
def b_X2_letters_4 (fu : Nat) (v0 : Nat) (v1 : Int32) (v2 : Int32) (S : g_St) : Option ((Int32 × Int32 × g_St) ⊕ (Int32 × g_St)) :=
  if (S.1 v0 2) ≤ v2 then (some (.inr (v1, S))) else (g_ld g_KC 90 (.inr (3, 4, true)) (S.2 v0 0) fun a1 => g_ix v2 4 fun i2 => g_ld g_KC 90 g_kX1 (S.2 a1 i2) fun a2 => g_bd (f_X1_room fu a2 S) fun r3 Sr3 => if r3 ≤ 0 then (j_X2_letters_32_in4 fu v0 v2 v1 ((0 : Int32)) Sr3) else (j_X2_letters_32_in4 fu v0 v2 v1 (((1 : Int32) <<< (v2 &&& 31))) Sr3))
def f_X2_letters (fu : Nat) (o : Nat) (S : g_St) : Option (Int32 × g_St) :=
  g_th (g_lp (fun t => b_X2_letters_4 fu o t.1 t.2.1 t.2.2) fu ((0 : Int32), (0 : Int32), S)) fun e => match e with | (w1_1, S1) => some (w1_1, S1)
set_option maxRecDepth 100000 in
set_option maxHeartbeats 400000 in
theorem vj_X2_letters_32_in4 {x : g_CX} {z : Int32 × g_St} {fu : Nat} (X : g_X 90 x cX2_letters RX2 3 wsX2_letters rm_X2_letters (some .int)) (v0 : Nat) (v2 : Int32) (s0 : Int32) (s1 : Int32) (hk_v0 : v0 < 90 ∧ g_KC v0 = g_kX2) (S : g_St) {r : (Int32 × Int32 × g_St) ⊕ (Int32 × g_St)} (h : j_X2_letters_32_in4 fu v0 v2 s0 s1 S = some r) (hc : Sum.elim (fun t : Int32 × Int32 × g_St => g_V g_KC 90 x 3 (g_qi g_KC 90 x z) t.2.2 4 [(0, .ref (g_ad x v0)), (1, .int (t.1)), (2, .int (t.2.1))] []) (fun e : Int32 × g_St => g_V g_KC 90 x 3 (g_qi g_KC 90 x z) e.2 40 [(1, .int (e.1))] []) r) : g_V g_KC 90 x 3 (g_qi g_KC 90 x z) S 32 [(0, .ref (g_ad x v0)), (2, .int (v2))] [.int (s1), .int (s0)] := by
  unfold j_X2_letters_32_in4 at h
  refine g_ior X dX2_letters_32 ?_
  refine g_istore_n X [(1, _), (0, _), (2, _)] dX2_letters_33 (by decide) rfl ?_
  refine g_iinc X [(2, _), (1, _), (0, _)] dX2_letters_34 2 rfl rfl (by decide) rfl ?_
  refine g_goto X 4 dX2_letters_37 (by decide) ?_
  cases h
  exact g_sub [2, 1, 0] _ rfl hc
set_option maxRecDepth 100000 in
set_option maxHeartbeats 400000 in
theorem vb_X2_letters_4 {x : g_CX} {z : Int32 × g_St} {fu : Nat} (X : g_X 90 x cX2_letters RX2 3 wsX2_letters rm_X2_letters (some .int)) (v0 : Nat) (v1 : Int32) (v2 : Int32) (hk_v0 : v0 < 90 ∧ g_KC v0 = g_kX2) (S : g_St) {r : (Int32 × Int32 × g_St) ⊕ (Int32 × g_St)} (h : b_X2_letters_4 fu v0 v1 v2 S = some r) (hc : Sum.elim (fun t : Int32 × Int32 × g_St => g_V g_KC 90 x 3 (g_qi g_KC 90 x z) t.2.2 4 [(0, .ref (g_ad x v0)), (1, .int (t.1)), (2, .int (t.2.1))] []) (fun e : Int32 × g_St => g_V g_KC 90 x 3 (g_qi g_KC 90 x z) e.2 40 [(1, .int (e.1))] []) r) : g_V g_KC 90 x 3 (g_qi g_KC 90 x z) S 4 [(0, .ref (g_ad x v0)), (1, .int (v1)), (2, .int (v2))] [] := by
  unfold b_X2_letters_4 at h
  refine g_iload_n X dX2_letters_4 2 rfl ?_
  refine g_aload_n X dX2_letters_5 0 rfl ?_
  refine g_geti X g_cX2 w_X2_letters_inX2 2 (by decide) w_X2_letters_25 hk_v0 rfl dX2_letters_6 ?_
  refine g_icmp_ge X 40 dX2_letters_9 (by decide) h (fun c_9 h => ?_) (fun c_9 h => ?_)
  · skip
    cases h
    exact g_sub [1] _ rfl hc
  · skip
    refine g_iload_n X dX2_letters_12 1 rfl ?_
    refine g_aload_n X dX2_letters_13 0 rfl ?_
    refine g_getr X g_cX2 w_X2_letters_inX2 0 (by decide) w_X2_letters_11 hk_v0 rfl dX2_letters_14 h (fun a1 hk_a1 h => ?_)
    refine g_iload_n X dX2_letters_17 2 rfl ?_
    refine g_aald X 3 RX1 rfl hk_a1 dX2_letters_18 h (fun a2 hk_a2 h => ?_)
    refine g_callVi X g_cX1 hk_a2 [] rfl (cwV 0 X.2.2.2.2.1 gX2_letters_X1_room rfl rfl rfl hd_X1_room ⟨Nat.le_of_ble_eq_true rfl, Nat.le_of_ble_eq_true rfl⟩) (Nat.le_of_ble_eq_true rfl) dX2_letters_19 h (fun q hq => ct_X1_room X.2.2.2.2.2.2.1 a2 hk_a2 _ hq) (fun r3 Sr3 h => ?_)
    refine g_if_le X 31 dX2_letters_22 (by decide) h (fun c_22 h => ?_) (fun c_22 h => ?_)
    · skip
      refine g_iconst X (v := 0) dX2_letters_31 (by decide) ?_
      refine g_sub [0, 2] _ rfl ?_
      exact vj_X2_letters_32_in4 X v0 v2 v1 ((0 : Int32)) hk_v0 _ h hc
    · skip
      refine g_iconst X (v := 1) dX2_letters_25 (by decide) ?_
      refine g_iload_n X dX2_letters_26 2 rfl ?_
      refine g_ishl X dX2_letters_27 ?_
      refine g_goto X 32 dX2_letters_28 (by decide) ?_
      refine g_sub [0, 2] _ rfl ?_
      exact vj_X2_letters_32_in4 X v0 v2 v1 (((1 : Int32) <<< (v2 &&& 31))) hk_v0 _ h hc
set_option maxRecDepth 100000 in
set_option maxHeartbeats 400000 in
theorem ct_X2_letters {l : Launch} {D : va_G} {ad : Nat → Nat} {cy : Nat → ClassId} {zz : (Nat → Nat) × (Nat → Nat)} (hinj : ∀ i j, i < 90 → j < 90 → ad i = ad j → i = j) {fu : Nat} (o : Nat) (hk_o : o < 90 ∧ g_KC o = g_kX2) {S : g_St} (z : Int32 × g_St) (h : f_X2_letters fu o S = some z) : g_Mi l g_KC 90 D ad cy zz yX2_letters wsX2_letters rm_X2_letters [.ref (ad o)] S z := by
  refine g_ofi hinj (cc := cX2_letters) (maxL := 3) (ret := (some .int)) (lv := [(0, .ref (ad o))]) (by decide) rfl (Nat.le_of_ble_eq_true rfl) rfl ?_
  intro x X hl hD ha hy hz
  subst hl hD ha hy hz
  unfold f_X2_letters at h
  refine g_iconst X (v := 0) dX2_letters_0 (by decide) ?_
  refine g_istore_n X [(1, _), (0, _)] dX2_letters_1 (by decide) rfl ?_
  refine g_iconst X (v := 0) dX2_letters_2 (by decide) ?_
  refine g_istore_n X [(2, _), (1, _), (0, _)] dX2_letters_3 (by decide) rfl ?_
  obtain ⟨e, he, h⟩ := g_th_s h
  refine g_sub [2, 1, 0] _ rfl ?_
  refine g_lp_w (body := (fun t => b_X2_letters_4 fu o t.1 t.2.1 t.2.2)) (P := fun t : Int32 × Int32 × g_St => g_V g_KC 90 x 3 (g_qi g_KC 90 x z) t.2.2 4 [(0, .ref (g_ad x o)), (1, .int (t.1)), (2, .int (t.2.1))] []) (E := (fun e : Int32 × g_St => g_V g_KC 90 x 3 (g_qi g_KC 90 x z) e.2 40 [(1, .int (e.1))] [])) (fun t r hb hc => vb_X2_letters_4 X o t.1 t.2.1 hk_o t.2.2 hb hc) fu ((0 : Int32), (0 : Int32), S) e he ?_
  obtain ⟨w1_1, S1⟩ := e
  show g_V g_KC 90 x 3 (g_qi g_KC 90 x z) S1 40 [(1, .int (w1_1))] []
  refine g_iload_n X dX2_letters_40 0 rfl ?_
  exact g_iret X h dX2_letters_41
abbrev rm_X2_firstShut : Room := { frames := 1, cells := 0, slots := 0, locals := 20 }
theorem hd_X2_firstShut : yX2_firstShut.cls = RX2 ∧ yX2_firstShut.cls ≠ "java/lang/invoke/MethodHandle" ∧ yX2_firstShut.cls ≠ "java/lang/invoke/VarHandle" ∧ (parseMethodDescriptor yX2_firstShut.desc).map (fun d => d.parameters.length) = some 0 := by decide +kernel
theorem w_X2_firstShut_25 : Cond.fieldLink RX2 25 "TokenDoors$Hall" "doorCount" "I" ∈ wsX2_firstShut := by decide +kernel
theorem w_X2_firstShut_inX2 : ∀ w ∈ wsX20, w ∈ wsX2_firstShut := by decide +kernel
theorem w_X2_firstShut_11 : Cond.fieldLink RX2 11 "TokenDoors$Hall" "doors" "[LTokenDoors$Door;" ∈ wsX2_firstShut := by decide +kernel
def b_X2_firstShut_2 (fu : Nat) (v0 : Nat) (v1 : Int32) (S : g_St) : Option ((Int32 × g_St) ⊕ ((g_St) ⊕ (Int32 × g_St))) :=
  if (S.1 v0 2) ≤ v1 then (some (.inr (.inl S))) else (g_ld g_KC 90 (.inr (3, 4, true)) (S.2 v0 0) fun a1 => g_ix v1 4 fun i2 => g_ld g_KC 90 g_kX1 (S.2 a1 i2) fun a2 => g_bd (f_X1_room fu a2 S) fun r3 Sr3 => if r3 = 0 then (some (.inr (.inr (v1, Sr3)))) else (some (.inl ((v1 + 1), Sr3))))
def f_X2_firstShut (fu : Nat) (o : Nat) (S : g_St) : Option (Int32 × g_St) :=
  g_th (g_lp (fun t => b_X2_firstShut_2 fu o t.1 t.2) fu ((0 : Int32), S)) fun e => match e with | .inl S1 => (some ((-4 : Int32), S1)) | .inr q => some q
set_option maxRecDepth 100000 in
set_option maxHeartbeats 400000 in
theorem vb_X2_firstShut_2 {x : g_CX} {z : Int32 × g_St} {fu : Nat} (X : g_X 90 x cX2_firstShut RX2 2 wsX2_firstShut rm_X2_firstShut (some .int)) (v0 : Nat) (v1 : Int32) (hk_v0 : v0 < 90 ∧ g_KC v0 = g_kX2) (S : g_St) {r : (Int32 × g_St) ⊕ ((g_St) ⊕ (Int32 × g_St))} (h : b_X2_firstShut_2 fu v0 v1 S = some r) (hc : Sum.elim (fun t : Int32 × g_St => g_V g_KC 90 x 2 (g_qi g_KC 90 x z) t.2 2 [(0, .ref (g_ad x v0)), (1, .int (t.1))] []) (fun b : (g_St) ⊕ (Int32 × g_St) => Sum.elim (fun e : g_St => g_V g_KC 90 x 2 (g_qi g_KC 90 x z) e 30 [] []) (fun q : Int32 × g_St => q = z) b) r) : g_V g_KC 90 x 2 (g_qi g_KC 90 x z) S 2 [(0, .ref (g_ad x v0)), (1, .int (v1))] [] := by
  unfold b_X2_firstShut_2 at h
  refine g_iload_n X dX2_firstShut_2 1 rfl ?_
  refine g_aload_n X dX2_firstShut_3 0 rfl ?_
  refine g_geti X g_cX2 w_X2_firstShut_inX2 2 (by decide) w_X2_firstShut_25 hk_v0 rfl dX2_firstShut_4 ?_
  refine g_icmp_ge X 30 dX2_firstShut_7 (by decide) h (fun c_7 h => ?_) (fun c_7 h => ?_)
  · skip
    cases h
    exact g_sub [] _ rfl hc
  · skip
    refine g_aload_n X dX2_firstShut_10 0 rfl ?_
    refine g_getr X g_cX2 w_X2_firstShut_inX2 0 (by decide) w_X2_firstShut_11 hk_v0 rfl dX2_firstShut_11 h (fun a1 hk_a1 h => ?_)
    refine g_iload_n X dX2_firstShut_14 1 rfl ?_
    refine g_aald X 3 RX1 rfl hk_a1 dX2_firstShut_15 h (fun a2 hk_a2 h => ?_)
    refine g_callVi X g_cX1 hk_a2 [] rfl (cwV 0 X.2.2.2.2.1 gX2_firstShut_X1_room rfl rfl rfl hd_X1_room ⟨Nat.le_of_ble_eq_true rfl, Nat.le_of_ble_eq_true rfl⟩) (Nat.le_of_ble_eq_true rfl) dX2_firstShut_16 h (fun q hq => ct_X1_room X.2.2.2.2.2.2.1 a2 hk_a2 _ hq) (fun r3 Sr3 h => ?_)
    refine g_if_ne X 24 dX2_firstShut_19 (by decide) h (fun c_19 h => ?_) (fun c_19 h => ?_)
    · skip
      refine g_iinc X [(1, _), (0, _)] dX2_firstShut_24 1 rfl rfl (by decide) rfl ?_
      refine g_goto X 2 dX2_firstShut_27 (by decide) ?_
      cases h
      exact g_sub [1, 0] _ rfl hc
    · skip
      refine g_iload_n X dX2_firstShut_22 1 rfl ?_
      cases h
      exact g_iret X (congrArg some hc) dX2_firstShut_23
set_option maxRecDepth 100000 in
set_option maxHeartbeats 400000 in
theorem ct_X2_firstShut {l : Launch} {D : va_G} {ad : Nat → Nat} {cy : Nat → ClassId} {zz : (Nat → Nat) × (Nat → Nat)} (hinj : ∀ i j, i < 90 → j < 90 → ad i = ad j → i = j) {fu : Nat} (o : Nat) (hk_o : o < 90 ∧ g_KC o = g_kX2) {S : g_St} (z : Int32 × g_St) (h : f_X2_firstShut fu o S = some z) : g_Mi l g_KC 90 D ad cy zz yX2_firstShut wsX2_firstShut rm_X2_firstShut [.ref (ad o)] S z := by
  refine g_ofi hinj (cc := cX2_firstShut) (maxL := 2) (ret := (some .int)) (lv := [(0, .ref (ad o))]) (by decide) rfl (Nat.le_of_ble_eq_true rfl) rfl ?_
  intro x X hl hD ha hy hz
  subst hl hD ha hy hz
  unfold f_X2_firstShut at h
  refine g_iconst X (v := 0) dX2_firstShut_0 (by decide) ?_
  refine g_istore_n X [(1, _), (0, _)] dX2_firstShut_1 (by decide) rfl ?_
  obtain ⟨e, he, h⟩ := g_th_s h
  refine g_sub [1, 0] _ rfl ?_
  refine g_lp_w (body := (fun t => b_X2_firstShut_2 fu o t.1 t.2)) (P := fun t : Int32 × g_St => g_V g_KC 90 x 2 (g_qi g_KC 90 x z) t.2 2 [(0, .ref (g_ad x o)), (1, .int (t.1))] []) (E := (fun b : (g_St) ⊕ (Int32 × g_St) => Sum.elim (fun e : g_St => g_V g_KC 90 x 2 (g_qi g_KC 90 x z) e 30 [] []) (fun q : Int32 × g_St => q = z) b)) (fun t r hb hc => vb_X2_firstShut_2 X o t.1 hk_o t.2 hb hc) fu ((0 : Int32), S) e he ?_
  rcases e with S1 | q
  · show g_V g_KC 90 x 2 (g_qi g_KC 90 x z) S1 30 [] []
    refine g_bipush X (v := (-4)) dX2_firstShut_30 (by decide) ?_
    exact g_iret X h dX2_firstShut_32
  · cases h; rfl
abbrev rm_X2_admit : Room := { frames := 2, cells := 0, slots := 0, locals := 45 }
theorem hd_X2_admit : yX2_admit.cls = RX2 ∧ yX2_admit.cls ≠ "java/lang/invoke/MethodHandle" ∧ yX2_admit.cls ≠ "java/lang/invoke/VarHandle" ∧ (parseMethodDescriptor yX2_admit.desc).map (fun d => d.parameters.length) = some 1 := by decide +kernel
theorem w_X2_admit_25 : Cond.fieldLink RX2 25 "TokenDoors$Hall" "doorCount" "I" ∈ wsX2_admit := by decide +kernel
theorem w_X2_admit_inX2 : ∀ w ∈ wsX20, w ∈ wsX2_admit := by decide +kernel
theorem w_X2_admit_11 : Cond.fieldLink RX2 11 "TokenDoors$Hall" "doors" "[LTokenDoors$Door;" ∈ wsX2_admit := by decide +kernel
theorem w_X2_admit_74 : Cond.constant RX2 74 (99999) ∈ wsX2_admit := by decide +kernel
theorem w_X2_admit_35 : Cond.fieldLink RX2 35 "TokenDoors$Hall" "let" "I" ∈ wsX2_admit := by decide +kernel
theorem w_X2_admit_75 : Cond.methodLink RX2 75 Lib.Math.min.name ∈ wsX2_admit := by decide +kernel
theorem w_X2_admit_stmmin : Cond.static Lib.Math.min.name ∈ wsX2_admit := by decide +kernel
theorem w_X2_admit_inMath : Cond.initialized "java/lang/Math" ∈ wsX2_admit := by decide +kernel
theorem w_X2_admit_commin : Cond.code Lib.Math.min.name Lib.Math.min.code 2 (some .int) ∈ wsX2_admit := by decide +kernel
theorem w_X2_admit_38 : Cond.fieldLink RX2 38 "TokenDoors$Hall" "turned" "I" ∈ wsX2_admit := by decide +kernel
def b_X2_admit_4 (fu : Nat) (v0 : Nat) (v1 : Int32) (v2 : Int32) (v3 : Int32) (S : g_St) : Option ((Int32 × Int32 × g_St) ⊕ (Int32 × g_St)) :=
  if (S.1 v0 2) ≤ v3 then (some (.inr (v2, S))) else (g_ld g_KC 90 (.inr (3, 4, true)) (S.2 v0 0) fun a1 => g_ix v3 4 fun i2 => g_ld g_KC 90 g_kX1 (S.2 a1 i2) fun a2 => g_bd (f_X1_admit fu a2 v2 S) fun r3 Sr3 => some (.inl (r3, (v3 + 1), Sr3)))
def f_X2_admit (fu : Nat) (o : Nat) (p0 : Int32) (S : g_St) : Option (Int32 × g_St) :=
  g_th (g_lp (fun t => b_X2_admit_4 fu o p0 t.1 t.2.1 t.2.2) fu (p0, (0 : Int32), S)) fun e => match e with | (w2_1, S1) => some (w2_1, (g_u (g_u S1.1 o 5 (if ((S1.1 o 5) + w2_1) < (99999 : Int32) then ((S1.1 o 5) + w2_1) else (99999 : Int32))) o 6 (if ((((g_u S1.1 o 5 (if ((S1.1 o 5) + w2_1) < (99999 : Int32) then ((S1.1 o 5) + w2_1) else (99999 : Int32))) o 6) + p0) - w2_1) < (99999 : Int32) then ((((g_u S1.1 o 5 (if ((S1.1 o 5) + w2_1) < (99999 : Int32) then ((S1.1 o 5) + w2_1) else (99999 : Int32))) o 6) + p0) - w2_1) else (99999 : Int32)), S1.2))
set_option maxRecDepth 100000 in
set_option maxHeartbeats 400000 in
theorem vb_X2_admit_4 {x : g_CX} {z : Int32 × g_St} {fu : Nat} (X : g_X 90 x cX2_admit RX2 4 wsX2_admit rm_X2_admit (some .int)) (v0 : Nat) (v1 : Int32) (v2 : Int32) (v3 : Int32) (hk_v0 : v0 < 90 ∧ g_KC v0 = g_kX2) (S : g_St) {r : (Int32 × Int32 × g_St) ⊕ (Int32 × g_St)} (h : b_X2_admit_4 fu v0 v1 v2 v3 S = some r) (hc : Sum.elim (fun t : Int32 × Int32 × g_St => g_V g_KC 90 x 4 (g_qi g_KC 90 x z) t.2.2 4 [(0, .ref (g_ad x v0)), (1, .int (v1)), (2, .int (t.1)), (3, .int (t.2.1))] []) (fun e : Int32 × g_St => g_V g_KC 90 x 4 (g_qi g_KC 90 x z) e.2 29 [(0, .ref (g_ad x v0)), (1, .int (v1)), (2, .int (e.1))] []) r) : g_V g_KC 90 x 4 (g_qi g_KC 90 x z) S 4 [(0, .ref (g_ad x v0)), (1, .int (v1)), (2, .int (v2)), (3, .int (v3))] [] := by
  unfold b_X2_admit_4 at h
  refine g_iload_n X dX2_admit_4 3 rfl ?_
  refine g_aload_n X dX2_admit_5 0 rfl ?_
  refine g_geti X g_cX2 w_X2_admit_inX2 2 (by decide) w_X2_admit_25 hk_v0 rfl dX2_admit_6 ?_
  refine g_icmp_ge X 29 dX2_admit_9 (by decide) h (fun c_9 h => ?_) (fun c_9 h => ?_)
  · skip
    cases h
    exact g_sub [0, 1, 2] _ rfl hc
  · skip
    refine g_aload_n X dX2_admit_12 0 rfl ?_
    refine g_getr X g_cX2 w_X2_admit_inX2 0 (by decide) w_X2_admit_11 hk_v0 rfl dX2_admit_13 h (fun a1 hk_a1 h => ?_)
    refine g_iload_n X dX2_admit_16 3 rfl ?_
    refine g_aald X 3 RX1 rfl hk_a1 dX2_admit_17 h (fun a2 hk_a2 h => ?_)
    refine g_iload_n X dX2_admit_18 2 rfl ?_
    refine g_callVi X g_cX1 hk_a2 [.int (v2)] rfl (cwV 1 X.2.2.2.2.1 gX2_admit_X1_admit rfl rfl rfl hd_X1_admit ⟨Nat.le_of_ble_eq_true rfl, Nat.le_of_ble_eq_true rfl⟩) (Nat.le_of_ble_eq_true rfl) dX2_admit_19 h (fun q hq => ct_X1_admit X.2.2.2.2.2.2.1 a2 v2 hk_a2 _ hq) (fun r3 Sr3 h => ?_)
    refine g_istore_n X [(2, _), (0, _), (1, _), (3, _)] dX2_admit_22 (by decide) rfl ?_
    refine g_iinc X [(3, _), (2, _), (0, _), (1, _)] dX2_admit_23 3 rfl rfl (by decide) rfl ?_
    refine g_goto X 4 dX2_admit_26 (by decide) ?_
    cases h
    exact g_sub [2, 3, 1, 0] _ rfl hc
set_option maxRecDepth 100000 in
set_option maxHeartbeats 400000 in
theorem ct_X2_admit {l : Launch} {D : va_G} {ad : Nat → Nat} {cy : Nat → ClassId} {zz : (Nat → Nat) × (Nat → Nat)} (hinj : ∀ i j, i < 90 → j < 90 → ad i = ad j → i = j) {fu : Nat} (o : Nat) (p0 : Int32) (hk_o : o < 90 ∧ g_KC o = g_kX2) {S : g_St} (z : Int32 × g_St) (h : f_X2_admit fu o p0 S = some z) : g_Mi l g_KC 90 D ad cy zz yX2_admit wsX2_admit rm_X2_admit [.ref (ad o), .int (p0)] S z := by
  refine g_ofi hinj (cc := cX2_admit) (maxL := 4) (ret := (some .int)) (lv := [(0, .ref (ad o)), (1, .int (p0))]) (by decide) rfl (Nat.le_of_ble_eq_true rfl) rfl ?_
  intro x X hl hD ha hy hz
  subst hl hD ha hy hz
  unfold f_X2_admit at h
  refine g_iload_n X dX2_admit_0 1 rfl ?_
  refine g_istore_n X [(2, _), (0, _), (1, _)] dX2_admit_1 (by decide) rfl ?_
  refine g_iconst X (v := 0) dX2_admit_2 (by decide) ?_
  refine g_istore_n X [(3, _), (2, _), (0, _), (1, _)] dX2_admit_3 (by decide) rfl ?_
  obtain ⟨e, he, h⟩ := g_th_s h
  refine g_sub [2, 3, 1, 0] _ rfl ?_
  refine g_lp_w (body := (fun t => b_X2_admit_4 fu o p0 t.1 t.2.1 t.2.2)) (P := fun t : Int32 × Int32 × g_St => g_V g_KC 90 x 4 (g_qi g_KC 90 x z) t.2.2 4 [(0, .ref (g_ad x o)), (1, .int (p0)), (2, .int (t.1)), (3, .int (t.2.1))] []) (E := (fun e : Int32 × g_St => g_V g_KC 90 x 4 (g_qi g_KC 90 x z) e.2 29 [(0, .ref (g_ad x o)), (1, .int (p0)), (2, .int (e.1))] [])) (fun t r hb hc => vb_X2_admit_4 X o p0 t.1 t.2.1 hk_o t.2.2 hb hc) fu (p0, (0 : Int32), S) e he ?_
  obtain ⟨w2_1, S1⟩ := e
  show g_V g_KC 90 x 4 (g_qi g_KC 90 x z) S1 29 [(0, .ref (g_ad x o)), (1, .int (p0)), (2, .int (w2_1))] []
  refine g_aload_n X dX2_admit_29 0 rfl ?_
  refine g_ldc X w_X2_admit_74 dX2_admit_30 ?_
  refine g_aload_n X dX2_admit_32 0 rfl ?_
  refine g_geti X g_cX2 w_X2_admit_inX2 5 (by decide) w_X2_admit_35 hk_o rfl dX2_admit_33 ?_
  refine g_iload_n X dX2_admit_36 2 rfl ?_
  refine g_iadd X dX2_admit_37 ?_
  refine g_mmin X w_X2_admit_75 w_X2_admit_stmmin w_X2_admit_inMath w_X2_admit_commin (by decide) (Nat.le_of_ble_eq_true rfl) dX2_admit_38 ?_
  refine g_puti X g_cX2 w_X2_admit_inX2 5 (by decide) w_X2_admit_35 hk_o rfl rfl (t := .int) (by decide +kernel) rfl rfl dX2_admit_41 ?_
  refine g_aload_n X dX2_admit_44 0 rfl ?_
  refine g_ldc X w_X2_admit_74 dX2_admit_45 ?_
  refine g_aload_n X dX2_admit_47 0 rfl ?_
  refine g_geti X g_cX2 w_X2_admit_inX2 6 (by decide) w_X2_admit_38 hk_o rfl dX2_admit_48 ?_
  refine g_iload_n X dX2_admit_51 1 rfl ?_
  refine g_iadd X dX2_admit_52 ?_
  refine g_iload_n X dX2_admit_53 2 rfl ?_
  refine g_isub X dX2_admit_54 ?_
  refine g_mmin X w_X2_admit_75 w_X2_admit_stmmin w_X2_admit_inMath w_X2_admit_commin (by decide) (Nat.le_of_ble_eq_true rfl) dX2_admit_55 ?_
  refine g_puti X g_cX2 w_X2_admit_inX2 6 (by decide) w_X2_admit_38 hk_o rfl rfl (t := .int) (by decide +kernel) rfl rfl dX2_admit_58 ?_
  refine g_iload_n X dX2_admit_61 2 rfl ?_
  exact g_iret X h dX2_admit_62
abbrev rm_X2_tickWith : Room := { frames := 3, cells := 0, slots := 0, locals := 68 }
theorem hd_X2_tickWith : yX2_tickWith.cls = RX2 ∧ yX2_tickWith.cls ≠ "java/lang/invoke/MethodHandle" ∧ yX2_tickWith.cls ≠ "java/lang/invoke/VarHandle" ∧ (parseMethodDescriptor yX2_tickWith.desc).map (fun d => d.parameters.length) = some 1 := by decide +kernel
theorem w_X2_tickWith_25 : Cond.fieldLink RX2 25 "TokenDoors$Hall" "doorCount" "I" ∈ wsX2_tickWith := by decide +kernel
theorem w_X2_tickWith_inX2 : ∀ w ∈ wsX20, w ∈ wsX2_tickWith := by decide +kernel
theorem w_X2_tickWith_11 : Cond.fieldLink RX2 11 "TokenDoors$Hall" "doors" "[LTokenDoors$Door;" ∈ wsX2_tickWith := by decide +kernel
theorem w_X2_tickWith_32 : Cond.fieldLink RX2 32 "TokenDoors$Hall" "tick" "I" ∈ wsX2_tickWith := by decide +kernel
def b_X2_tickWith_8 (fu : Nat) (v0 : Nat) (v2 : Int32) (v3 : Int32) (S : g_St) : Option ((Int32 × g_St) ⊕ (g_St)) :=
  if (S.1 v0 2) ≤ v3 then (some (.inr S)) else (g_ld g_KC 90 (.inr (3, 4, true)) (S.2 v0 0) fun a2 => g_ix v3 4 fun i3 => g_ld g_KC 90 g_kX1 (S.2 a2 i3) fun a3 => g_bd (f_X1_settle fu a3 ((S.1 v0 4)) S) fun _ Sr4 => some (.inl ((v3 + 1), Sr4)))
def f_X2_tickWith (fu : Nat) (o : Nat) (p0 : Int32) (S : g_St) : Option (Int32 × g_St) :=
  g_bd (f_X2_admit fu o p0 S) fun r1 Sr1 => g_th (g_lp (fun t => b_X2_tickWith_8 fu o r1 t.1 t.2) fu ((0 : Int32), Sr1)) fun e => match e with | S1 => some (r1, (g_u S1.1 o 4 ((S1.1 o 4) + (1 : Int32)), S1.2))
set_option maxRecDepth 100000 in
set_option maxHeartbeats 400000 in
theorem vb_X2_tickWith_8 {x : g_CX} {z : Int32 × g_St} {fu : Nat} (X : g_X 90 x cX2_tickWith RX2 4 wsX2_tickWith rm_X2_tickWith (some .int)) (v0 : Nat) (v2 : Int32) (v3 : Int32) (hk_v0 : v0 < 90 ∧ g_KC v0 = g_kX2) (S : g_St) {r : (Int32 × g_St) ⊕ (g_St)} (h : b_X2_tickWith_8 fu v0 v2 v3 S = some r) (hc : Sum.elim (fun t : Int32 × g_St => g_V g_KC 90 x 4 (g_qi g_KC 90 x z) t.2 8 [(0, .ref (g_ad x v0)), (2, .int (v2)), (3, .int (t.1))] []) (fun e : g_St => g_V g_KC 90 x 4 (g_qi g_KC 90 x z) e 35 [(0, .ref (g_ad x v0)), (2, .int (v2))] []) r) : g_V g_KC 90 x 4 (g_qi g_KC 90 x z) S 8 [(0, .ref (g_ad x v0)), (2, .int (v2)), (3, .int (v3))] [] := by
  unfold b_X2_tickWith_8 at h
  refine g_iload_n X dX2_tickWith_8 2 rfl ?_
  refine g_aload_n X dX2_tickWith_9 0 rfl ?_
  refine g_geti X g_cX2 w_X2_tickWith_inX2 2 (by decide) w_X2_tickWith_25 hk_v0 rfl dX2_tickWith_10 ?_
  refine g_icmp_ge X 35 dX2_tickWith_13 (by decide) h (fun c_13 h => ?_) (fun c_13 h => ?_)
  · skip
    cases h
    exact g_sub [0, 1] _ rfl hc
  · skip
    refine g_aload_n X dX2_tickWith_16 0 rfl ?_
    refine g_getr X g_cX2 w_X2_tickWith_inX2 0 (by decide) w_X2_tickWith_11 hk_v0 rfl dX2_tickWith_17 h (fun a2 hk_a2 h => ?_)
    refine g_iload_n X dX2_tickWith_20 2 rfl ?_
    refine g_aald X 3 RX1 rfl hk_a2 dX2_tickWith_21 h (fun a3 hk_a3 h => ?_)
    refine g_aload_n X dX2_tickWith_22 0 rfl ?_
    refine g_geti X g_cX2 w_X2_tickWith_inX2 4 (by decide) w_X2_tickWith_32 hk_v0 rfl dX2_tickWith_23 ?_
    refine g_callVv X g_cX1 hk_a3 [.int ((S.1 v0 4))] rfl (cwV 1 X.2.2.2.2.1 gX2_tickWith_X1_settle rfl rfl rfl hd_X1_settle ⟨Nat.le_of_ble_eq_true rfl, Nat.le_of_ble_eq_true rfl⟩) (Nat.le_of_ble_eq_true rfl) dX2_tickWith_26 h (fun q hq => ct_X1_settle X.2.2.2.2.2.2.1 a3 ((S.1 v0 4)) hk_a3 _ hq) (fun _ Sr4 h => ?_)
    refine g_iinc X [(3, _), (0, _), (2, _)] dX2_tickWith_29 2 rfl rfl (by decide) rfl ?_
    refine g_goto X 8 dX2_tickWith_32 (by decide) ?_
    cases h
    exact g_sub [1, 2, 0] _ rfl hc
set_option maxRecDepth 100000 in
set_option maxHeartbeats 400000 in
theorem ct_X2_tickWith {l : Launch} {D : va_G} {ad : Nat → Nat} {cy : Nat → ClassId} {zz : (Nat → Nat) × (Nat → Nat)} (hinj : ∀ i j, i < 90 → j < 90 → ad i = ad j → i = j) {fu : Nat} (o : Nat) (p0 : Int32) (hk_o : o < 90 ∧ g_KC o = g_kX2) {S : g_St} (z : Int32 × g_St) (h : f_X2_tickWith fu o p0 S = some z) : g_Mi l g_KC 90 D ad cy zz yX2_tickWith wsX2_tickWith rm_X2_tickWith [.ref (ad o), .int (p0)] S z := by
  refine g_ofi hinj (cc := cX2_tickWith) (maxL := 4) (ret := (some .int)) (lv := [(0, .ref (ad o)), (1, .int (p0))]) (by decide) rfl (Nat.le_of_ble_eq_true rfl) rfl ?_
  intro x X hl hD ha hy hz
  subst hl hD ha hy hz
  unfold f_X2_tickWith at h
  refine g_aload_n X dX2_tickWith_0 0 rfl ?_
  refine g_iload_n X dX2_tickWith_1 1 rfl ?_
  refine g_callVi X g_cX2 hk_o [.int (p0)] rfl (cwV 1 X.2.2.2.2.1 gX2_tickWith_X2_admit rfl rfl rfl hd_X2_admit ⟨Nat.le_of_ble_eq_true rfl, Nat.le_of_ble_eq_true rfl⟩) (Nat.le_of_ble_eq_true rfl) dX2_tickWith_2 h (fun q hq => ct_X2_admit X.2.2.2.2.2.2.1 o p0 hk_o _ hq) (fun r1 Sr1 h => ?_)
  refine g_istore_n X [(2, _), (0, _), (1, _)] dX2_tickWith_5 (by decide) rfl ?_
  refine g_iconst X (v := 0) dX2_tickWith_6 (by decide) ?_
  refine g_istore_n X [(3, _), (2, _), (0, _), (1, _)] dX2_tickWith_7 (by decide) rfl ?_
  obtain ⟨e, he, h⟩ := g_th_s h
  refine g_sub [2, 1, 0] _ rfl ?_
  refine g_lp_w (body := (fun t => b_X2_tickWith_8 fu o r1 t.1 t.2)) (P := fun t : Int32 × g_St => g_V g_KC 90 x 4 (g_qi g_KC 90 x z) t.2 8 [(0, .ref (g_ad x o)), (2, .int (r1)), (3, .int (t.1))] []) (E := (fun e : g_St => g_V g_KC 90 x 4 (g_qi g_KC 90 x z) e 35 [(0, .ref (g_ad x o)), (2, .int (r1))] [])) (fun t r hb hc => vb_X2_tickWith_8 X o r1 t.1 hk_o t.2 hb hc) fu ((0 : Int32), Sr1) e he ?_
  obtain ⟨S1, rfl⟩ : ∃ q, q = e := ⟨_, rfl⟩
  show g_V g_KC 90 x 4 (g_qi g_KC 90 x z) S1 35 [(0, .ref (g_ad x o)), (2, .int (r1))] []
  refine g_aload_n X dX2_tickWith_35 0 rfl ?_
  refine g_dup X dX2_tickWith_36 rfl ?_
  refine g_geti X g_cX2 w_X2_tickWith_inX2 4 (by decide) w_X2_tickWith_32 hk_o rfl dX2_tickWith_37 ?_
  refine g_iconst X (v := 1) dX2_tickWith_40 (by decide) ?_
  refine g_iadd X dX2_tickWith_41 ?_
  refine g_puti X g_cX2 w_X2_tickWith_inX2 4 (by decide) w_X2_tickWith_32 hk_o rfl rfl (t := .int) (by decide +kernel) rfl rfl dX2_tickWith_42 ?_
  refine g_iload_n X dX2_tickWith_45 1 rfl ?_
  exact g_iret X h dX2_tickWith_46
abbrev rm_X2_tickOn : Room := { frames := 4, cells := 0, slots := 0, locals := 91 }
theorem hd_X2_tickOn : yX2_tickOn.cls = RX2 ∧ yX2_tickOn.cls ≠ "java/lang/invoke/MethodHandle" ∧ yX2_tickOn.cls ≠ "java/lang/invoke/VarHandle" ∧ (parseMethodDescriptor yX2_tickOn.desc).map (fun d => d.parameters.length) = some 0 := by decide +kernel
def f_X2_tickOn (fu : Nat) (o : Nat) (S : g_St) : Option (Int32 × g_St) :=
  g_bd (f_X2_comers fu o S) fun r1 Sr1 => g_bd (f_X2_tickWith fu o r1 Sr1) fun r2 Sr2 => some (r2, Sr2)
set_option maxRecDepth 100000 in
set_option maxHeartbeats 400000 in
theorem ct_X2_tickOn {l : Launch} {D : va_G} {ad : Nat → Nat} {cy : Nat → ClassId} {zz : (Nat → Nat) × (Nat → Nat)} (hinj : ∀ i j, i < 90 → j < 90 → ad i = ad j → i = j) {fu : Nat} (o : Nat) (hk_o : o < 90 ∧ g_KC o = g_kX2) {S : g_St} (z : Int32 × g_St) (h : f_X2_tickOn fu o S = some z) : g_Mi l g_KC 90 D ad cy zz yX2_tickOn wsX2_tickOn rm_X2_tickOn [.ref (ad o)] S z := by
  refine g_ofi hinj (cc := cX2_tickOn) (maxL := 1) (ret := (some .int)) (lv := [(0, .ref (ad o))]) (by decide) rfl (Nat.le_of_ble_eq_true rfl) rfl ?_
  intro x X hl hD ha hy hz
  subst hl hD ha hy hz
  unfold f_X2_tickOn at h
  refine g_aload_n X dX2_tickOn_0 0 rfl ?_
  refine g_aload_n X dX2_tickOn_1 0 rfl ?_
  refine g_callVi X g_cX2 hk_o [] rfl (cwV 0 X.2.2.2.2.1 gX2_tickOn_X2_comers rfl rfl rfl hd_X2_comers ⟨Nat.le_of_ble_eq_true rfl, Nat.le_of_ble_eq_true rfl⟩) (Nat.le_of_ble_eq_true rfl) dX2_tickOn_2 h (fun q hq => ct_X2_comers X.2.2.2.2.2.2.1 o hk_o _ hq) (fun r1 Sr1 h => ?_)
  refine g_callVi X g_cX2 hk_o [.int (r1)] rfl (cwV 1 X.2.2.2.2.1 gX2_tickOn_X2_tickWith rfl rfl rfl hd_X2_tickWith ⟨Nat.le_of_ble_eq_true rfl, Nat.le_of_ble_eq_true rfl⟩) (Nat.le_of_ble_eq_true rfl) dX2_tickOn_5 h (fun q hq => ct_X2_tickWith X.2.2.2.2.2.2.1 o r1 hk_o _ hq) (fun r2 Sr2 h => ?_)
  exact g_iret X h dX2_tickOn_8
abbrev rm_X2_runOn : Room := { frames := 5, cells := 0, slots := 0, locals := 111 }
theorem hd_X2_runOn : yX2_runOn.cls = RX2 ∧ yX2_runOn.cls ≠ "java/lang/invoke/MethodHandle" ∧ yX2_runOn.cls ≠ "java/lang/invoke/VarHandle" ∧ (parseMethodDescriptor yX2_runOn.desc).map (fun d => d.parameters.length) = some 1 := by decide +kernel
def b_X2_runOn_4 (fu : Nat) (v0 : Nat) (v1 : Int32) (v2 : Int32) (v3 : Int32) (S : g_St) : Option ((Int32 × Int32 × g_St) ⊕ (Int32 × g_St)) :=
  if v1 ≤ v3 then (some (.inr (v2, S))) else (g_bd (f_X2_tickOn fu v0 S) fun r1 Sr1 => some (.inl ((v2 + r1), (v3 + 1), Sr1)))
def f_X2_runOn (fu : Nat) (o : Nat) (p0 : Int32) (S : g_St) : Option (Int32 × g_St) :=
  g_th (g_lp (fun t => b_X2_runOn_4 fu o p0 t.1 t.2.1 t.2.2) fu ((0 : Int32), (0 : Int32), S)) fun e => match e with | (w2_1, S1) => some (w2_1, S1)
set_option maxRecDepth 100000 in
set_option maxHeartbeats 400000 in
theorem vb_X2_runOn_4 {x : g_CX} {z : Int32 × g_St} {fu : Nat} (X : g_X 90 x cX2_runOn RX2 4 wsX2_runOn rm_X2_runOn (some .int)) (v0 : Nat) (v1 : Int32) (v2 : Int32) (v3 : Int32) (hk_v0 : v0 < 90 ∧ g_KC v0 = g_kX2) (S : g_St) {r : (Int32 × Int32 × g_St) ⊕ (Int32 × g_St)} (h : b_X2_runOn_4 fu v0 v1 v2 v3 S = some r) (hc : Sum.elim (fun t : Int32 × Int32 × g_St => g_V g_KC 90 x 4 (g_qi g_KC 90 x z) t.2.2 4 [(0, .ref (g_ad x v0)), (1, .int (v1)), (2, .int (t.1)), (3, .int (t.2.1))] []) (fun e : Int32 × g_St => g_V g_KC 90 x 4 (g_qi g_KC 90 x z) e.2 22 [(2, .int (e.1))] []) r) : g_V g_KC 90 x 4 (g_qi g_KC 90 x z) S 4 [(0, .ref (g_ad x v0)), (1, .int (v1)), (2, .int (v2)), (3, .int (v3))] [] := by
  unfold b_X2_runOn_4 at h
  refine g_iload_n X dX2_runOn_4 3 rfl ?_
  refine g_iload_n X dX2_runOn_5 1 rfl ?_
  refine g_icmp_ge X 22 dX2_runOn_6 (by decide) h (fun c_6 h => ?_) (fun c_6 h => ?_)
  · skip
    cases h
    exact g_sub [2] _ rfl hc
  · skip
    refine g_iload_n X dX2_runOn_9 2 rfl ?_
    refine g_aload_n X dX2_runOn_10 0 rfl ?_
    refine g_callVi X g_cX2 hk_v0 [] rfl (cwV 0 X.2.2.2.2.1 gX2_runOn_X2_tickOn rfl rfl rfl hd_X2_tickOn ⟨Nat.le_of_ble_eq_true rfl, Nat.le_of_ble_eq_true rfl⟩) (Nat.le_of_ble_eq_true rfl) dX2_runOn_11 h (fun q hq => ct_X2_tickOn X.2.2.2.2.2.2.1 v0 hk_v0 _ hq) (fun r1 Sr1 h => ?_)
    refine g_iadd X dX2_runOn_14 ?_
    refine g_istore_n X [(2, _), (0, _), (1, _), (3, _)] dX2_runOn_15 (by decide) rfl ?_
    refine g_iinc X [(3, _), (2, _), (0, _), (1, _)] dX2_runOn_16 3 rfl rfl (by decide) rfl ?_
    refine g_goto X 4 dX2_runOn_19 (by decide) ?_
    cases h
    exact g_sub [2, 3, 1, 0] _ rfl hc
set_option maxRecDepth 100000 in
set_option maxHeartbeats 400000 in
theorem ct_X2_runOn {l : Launch} {D : va_G} {ad : Nat → Nat} {cy : Nat → ClassId} {zz : (Nat → Nat) × (Nat → Nat)} (hinj : ∀ i j, i < 90 → j < 90 → ad i = ad j → i = j) {fu : Nat} (o : Nat) (p0 : Int32) (hk_o : o < 90 ∧ g_KC o = g_kX2) {S : g_St} (z : Int32 × g_St) (h : f_X2_runOn fu o p0 S = some z) : g_Mi l g_KC 90 D ad cy zz yX2_runOn wsX2_runOn rm_X2_runOn [.ref (ad o), .int (p0)] S z := by
  refine g_ofi hinj (cc := cX2_runOn) (maxL := 4) (ret := (some .int)) (lv := [(0, .ref (ad o)), (1, .int (p0))]) (by decide) rfl (Nat.le_of_ble_eq_true rfl) rfl ?_
  intro x X hl hD ha hy hz
  subst hl hD ha hy hz
  unfold f_X2_runOn at h
  refine g_iconst X (v := 0) dX2_runOn_0 (by decide) ?_
  refine g_istore_n X [(2, _), (0, _), (1, _)] dX2_runOn_1 (by decide) rfl ?_
  refine g_iconst X (v := 0) dX2_runOn_2 (by decide) ?_
  refine g_istore_n X [(3, _), (2, _), (0, _), (1, _)] dX2_runOn_3 (by decide) rfl ?_
  obtain ⟨e, he, h⟩ := g_th_s h
  refine g_sub [2, 3, 1, 0] _ rfl ?_
  refine g_lp_w (body := (fun t => b_X2_runOn_4 fu o p0 t.1 t.2.1 t.2.2)) (P := fun t : Int32 × Int32 × g_St => g_V g_KC 90 x 4 (g_qi g_KC 90 x z) t.2.2 4 [(0, .ref (g_ad x o)), (1, .int (p0)), (2, .int (t.1)), (3, .int (t.2.1))] []) (E := (fun e : Int32 × g_St => g_V g_KC 90 x 4 (g_qi g_KC 90 x z) e.2 22 [(2, .int (e.1))] [])) (fun t r hb hc => vb_X2_runOn_4 X o p0 t.1 t.2.1 hk_o t.2.2 hb hc) fu ((0 : Int32), (0 : Int32), S) e he ?_
  obtain ⟨w2_1, S1⟩ := e
  show g_V g_KC 90 x 4 (g_qi g_KC 90 x z) S1 22 [(2, .int (w2_1))] []
  refine g_iload_n X dX2_runOn_22 0 rfl ?_
  exact g_iret X h dX2_runOn_23
abbrev rm_X2_heldByAll : Room := { frames := 0, cells := 0, slots := 0, locals := 0 }
theorem hd_X2_heldByAll : yX2_heldByAll.cls = RX2 ∧ yX2_heldByAll.cls ≠ "java/lang/invoke/MethodHandle" ∧ yX2_heldByAll.cls ≠ "java/lang/invoke/VarHandle" ∧ (parseMethodDescriptor yX2_heldByAll.desc).map (fun d => d.parameters.length) = some 0 := by decide +kernel
theorem w_X2_heldByAll_25 : Cond.fieldLink RX2 25 "TokenDoors$Hall" "doorCount" "I" ∈ wsX2_heldByAll := by decide +kernel
theorem w_X2_heldByAll_inX2 : ∀ w ∈ wsX20, w ∈ wsX2_heldByAll := by decide +kernel
theorem w_X2_heldByAll_11 : Cond.fieldLink RX2 11 "TokenDoors$Hall" "doors" "[LTokenDoors$Door;" ∈ wsX2_heldByAll := by decide +kernel
theorem w_X2_heldByAll_95 : Cond.fieldLink RX2 95 "TokenDoors$Door" "holds" "I" ∈ wsX2_heldByAll := by decide +kernel
theorem w_X2_heldByAll_inX1 : ∀ w ∈ wsX10, w ∈ wsX2_heldByAll := by decide +kernel
def b_X2_heldByAll_4 (fu : Nat) (v0 : Nat) (v1 : Int32) (v2 : Int32) (S : g_St) : Option ((Int32 × Int32 × g_St) ⊕ (Int32 × g_St)) :=
  if (S.1 v0 2) ≤ v2 then (some (.inr (v1, S))) else (g_ld g_KC 90 (.inr (3, 4, true)) (S.2 v0 0) fun a1 => g_ix v2 4 fun i2 => g_ld g_KC 90 g_kX1 (S.2 a1 i2) fun a2 => some (.inl ((v1 + (S.1 a2 3)), (v2 + 1), S)))
def f_X2_heldByAll (fu : Nat) (o : Nat) (S : g_St) : Option (Int32 × g_St) :=
  g_th (g_lp (fun t => b_X2_heldByAll_4 fu o t.1 t.2.1 t.2.2) fu ((0 : Int32), (0 : Int32), S)) fun e => match e with | (w1_1, S1) => some (w1_1, S1)
set_option maxRecDepth 100000 in
set_option maxHeartbeats 400000 in
theorem vb_X2_heldByAll_4 {x : g_CX} {z : Int32 × g_St} {fu : Nat} (X : g_X 90 x cX2_heldByAll RX2 3 wsX2_heldByAll rm_X2_heldByAll (some .int)) (v0 : Nat) (v1 : Int32) (v2 : Int32) (hk_v0 : v0 < 90 ∧ g_KC v0 = g_kX2) (S : g_St) {r : (Int32 × Int32 × g_St) ⊕ (Int32 × g_St)} (h : b_X2_heldByAll_4 fu v0 v1 v2 S = some r) (hc : Sum.elim (fun t : Int32 × Int32 × g_St => g_V g_KC 90 x 3 (g_qi g_KC 90 x z) t.2.2 4 [(0, .ref (g_ad x v0)), (1, .int (t.1)), (2, .int (t.2.1))] []) (fun e : Int32 × g_St => g_V g_KC 90 x 3 (g_qi g_KC 90 x z) e.2 30 [(1, .int (e.1))] []) r) : g_V g_KC 90 x 3 (g_qi g_KC 90 x z) S 4 [(0, .ref (g_ad x v0)), (1, .int (v1)), (2, .int (v2))] [] := by
  unfold b_X2_heldByAll_4 at h
  refine g_iload_n X dX2_heldByAll_4 2 rfl ?_
  refine g_aload_n X dX2_heldByAll_5 0 rfl ?_
  refine g_geti X g_cX2 w_X2_heldByAll_inX2 2 (by decide) w_X2_heldByAll_25 hk_v0 rfl dX2_heldByAll_6 ?_
  refine g_icmp_ge X 30 dX2_heldByAll_9 (by decide) h (fun c_9 h => ?_) (fun c_9 h => ?_)
  · skip
    cases h
    exact g_sub [1] _ rfl hc
  · skip
    refine g_iload_n X dX2_heldByAll_12 1 rfl ?_
    refine g_aload_n X dX2_heldByAll_13 0 rfl ?_
    refine g_getr X g_cX2 w_X2_heldByAll_inX2 0 (by decide) w_X2_heldByAll_11 hk_v0 rfl dX2_heldByAll_14 h (fun a1 hk_a1 h => ?_)
    refine g_iload_n X dX2_heldByAll_17 2 rfl ?_
    refine g_aald X 3 RX1 rfl hk_a1 dX2_heldByAll_18 h (fun a2 hk_a2 h => ?_)
    refine g_geti X g_cX1 w_X2_heldByAll_inX1 3 (by decide) w_X2_heldByAll_95 hk_a2 rfl dX2_heldByAll_19 ?_
    refine g_iadd X dX2_heldByAll_22 ?_
    refine g_istore_n X [(1, _), (0, _), (2, _)] dX2_heldByAll_23 (by decide) rfl ?_
    refine g_iinc X [(2, _), (1, _), (0, _)] dX2_heldByAll_24 2 rfl rfl (by decide) rfl ?_
    refine g_goto X 4 dX2_heldByAll_27 (by decide) ?_
    cases h
    exact g_sub [2, 1, 0] _ rfl hc
set_option maxRecDepth 100000 in
set_option maxHeartbeats 400000 in
theorem ct_X2_heldByAll {l : Launch} {D : va_G} {ad : Nat → Nat} {cy : Nat → ClassId} {zz : (Nat → Nat) × (Nat → Nat)} (hinj : ∀ i j, i < 90 → j < 90 → ad i = ad j → i = j) {fu : Nat} (o : Nat) (hk_o : o < 90 ∧ g_KC o = g_kX2) {S : g_St} (z : Int32 × g_St) (h : f_X2_heldByAll fu o S = some z) : g_Mi l g_KC 90 D ad cy zz yX2_heldByAll wsX2_heldByAll rm_X2_heldByAll [.ref (ad o)] S z := by
  refine g_ofi hinj (cc := cX2_heldByAll) (maxL := 3) (ret := (some .int)) (lv := [(0, .ref (ad o))]) (by decide) rfl (Nat.le_of_ble_eq_true rfl) rfl ?_
  intro x X hl hD ha hy hz
  subst hl hD ha hy hz
  unfold f_X2_heldByAll at h
  refine g_iconst X (v := 0) dX2_heldByAll_0 (by decide) ?_
  refine g_istore_n X [(1, _), (0, _)] dX2_heldByAll_1 (by decide) rfl ?_
  refine g_iconst X (v := 0) dX2_heldByAll_2 (by decide) ?_
  refine g_istore_n X [(2, _), (1, _), (0, _)] dX2_heldByAll_3 (by decide) rfl ?_
  obtain ⟨e, he, h⟩ := g_th_s h
  refine g_sub [2, 1, 0] _ rfl ?_
  refine g_lp_w (body := (fun t => b_X2_heldByAll_4 fu o t.1 t.2.1 t.2.2)) (P := fun t : Int32 × Int32 × g_St => g_V g_KC 90 x 3 (g_qi g_KC 90 x z) t.2.2 4 [(0, .ref (g_ad x o)), (1, .int (t.1)), (2, .int (t.2.1))] []) (E := (fun e : Int32 × g_St => g_V g_KC 90 x 3 (g_qi g_KC 90 x z) e.2 30 [(1, .int (e.1))] [])) (fun t r hb hc => vb_X2_heldByAll_4 X o t.1 t.2.1 hk_o t.2.2 hb hc) fu ((0 : Int32), (0 : Int32), S) e he ?_
  obtain ⟨w1_1, S1⟩ := e
  show g_V g_KC 90 x 3 (g_qi g_KC 90 x z) S1 30 [(1, .int (w1_1))] []
  refine g_iload_n X dX2_heldByAll_30 0 rfl ?_
  exact g_iret X h dX2_heldByAll_31
abbrev rm_X2_depthOfAll : Room := { frames := 0, cells := 0, slots := 0, locals := 0 }
theorem hd_X2_depthOfAll : yX2_depthOfAll.cls = RX2 ∧ yX2_depthOfAll.cls ≠ "java/lang/invoke/MethodHandle" ∧ yX2_depthOfAll.cls ≠ "java/lang/invoke/VarHandle" ∧ (parseMethodDescriptor yX2_depthOfAll.desc).map (fun d => d.parameters.length) = some 0 := by decide +kernel
theorem w_X2_depthOfAll_25 : Cond.fieldLink RX2 25 "TokenDoors$Hall" "doorCount" "I" ∈ wsX2_depthOfAll := by decide +kernel
theorem w_X2_depthOfAll_inX2 : ∀ w ∈ wsX20, w ∈ wsX2_depthOfAll := by decide +kernel
theorem w_X2_depthOfAll_11 : Cond.fieldLink RX2 11 "TokenDoors$Hall" "doors" "[LTokenDoors$Door;" ∈ wsX2_depthOfAll := by decide +kernel
theorem w_X2_depthOfAll_98 : Cond.fieldLink RX2 98 "TokenDoors$Door" "depth" "I" ∈ wsX2_depthOfAll := by decide +kernel
theorem w_X2_depthOfAll_inX1 : ∀ w ∈ wsX10, w ∈ wsX2_depthOfAll := by decide +kernel
def b_X2_depthOfAll_4 (fu : Nat) (v0 : Nat) (v1 : Int32) (v2 : Int32) (S : g_St) : Option ((Int32 × Int32 × g_St) ⊕ (Int32 × g_St)) :=
  if (S.1 v0 2) ≤ v2 then (some (.inr (v1, S))) else (g_ld g_KC 90 (.inr (3, 4, true)) (S.2 v0 0) fun a1 => g_ix v2 4 fun i2 => g_ld g_KC 90 g_kX1 (S.2 a1 i2) fun a2 => some (.inl ((v1 + (S.1 a2 1)), (v2 + 1), S)))
def f_X2_depthOfAll (fu : Nat) (o : Nat) (S : g_St) : Option (Int32 × g_St) :=
  g_th (g_lp (fun t => b_X2_depthOfAll_4 fu o t.1 t.2.1 t.2.2) fu ((0 : Int32), (0 : Int32), S)) fun e => match e with | (w1_1, S1) => some (w1_1, S1)
set_option maxRecDepth 100000 in
set_option maxHeartbeats 400000 in
theorem vb_X2_depthOfAll_4 {x : g_CX} {z : Int32 × g_St} {fu : Nat} (X : g_X 90 x cX2_depthOfAll RX2 3 wsX2_depthOfAll rm_X2_depthOfAll (some .int)) (v0 : Nat) (v1 : Int32) (v2 : Int32) (hk_v0 : v0 < 90 ∧ g_KC v0 = g_kX2) (S : g_St) {r : (Int32 × Int32 × g_St) ⊕ (Int32 × g_St)} (h : b_X2_depthOfAll_4 fu v0 v1 v2 S = some r) (hc : Sum.elim (fun t : Int32 × Int32 × g_St => g_V g_KC 90 x 3 (g_qi g_KC 90 x z) t.2.2 4 [(0, .ref (g_ad x v0)), (1, .int (t.1)), (2, .int (t.2.1))] []) (fun e : Int32 × g_St => g_V g_KC 90 x 3 (g_qi g_KC 90 x z) e.2 30 [(1, .int (e.1))] []) r) : g_V g_KC 90 x 3 (g_qi g_KC 90 x z) S 4 [(0, .ref (g_ad x v0)), (1, .int (v1)), (2, .int (v2))] [] := by
  unfold b_X2_depthOfAll_4 at h
  refine g_iload_n X dX2_depthOfAll_4 2 rfl ?_
  refine g_aload_n X dX2_depthOfAll_5 0 rfl ?_
  refine g_geti X g_cX2 w_X2_depthOfAll_inX2 2 (by decide) w_X2_depthOfAll_25 hk_v0 rfl dX2_depthOfAll_6 ?_
  refine g_icmp_ge X 30 dX2_depthOfAll_9 (by decide) h (fun c_9 h => ?_) (fun c_9 h => ?_)
  · skip
    cases h
    exact g_sub [1] _ rfl hc
  · skip
    refine g_iload_n X dX2_depthOfAll_12 1 rfl ?_
    refine g_aload_n X dX2_depthOfAll_13 0 rfl ?_
    refine g_getr X g_cX2 w_X2_depthOfAll_inX2 0 (by decide) w_X2_depthOfAll_11 hk_v0 rfl dX2_depthOfAll_14 h (fun a1 hk_a1 h => ?_)
    refine g_iload_n X dX2_depthOfAll_17 2 rfl ?_
    refine g_aald X 3 RX1 rfl hk_a1 dX2_depthOfAll_18 h (fun a2 hk_a2 h => ?_)
    refine g_geti X g_cX1 w_X2_depthOfAll_inX1 1 (by decide) w_X2_depthOfAll_98 hk_a2 rfl dX2_depthOfAll_19 ?_
    refine g_iadd X dX2_depthOfAll_22 ?_
    refine g_istore_n X [(1, _), (0, _), (2, _)] dX2_depthOfAll_23 (by decide) rfl ?_
    refine g_iinc X [(2, _), (1, _), (0, _)] dX2_depthOfAll_24 2 rfl rfl (by decide) rfl ?_
    refine g_goto X 4 dX2_depthOfAll_27 (by decide) ?_
    cases h
    exact g_sub [2, 1, 0] _ rfl hc
set_option maxRecDepth 100000 in
set_option maxHeartbeats 400000 in
theorem ct_X2_depthOfAll {l : Launch} {D : va_G} {ad : Nat → Nat} {cy : Nat → ClassId} {zz : (Nat → Nat) × (Nat → Nat)} (hinj : ∀ i j, i < 90 → j < 90 → ad i = ad j → i = j) {fu : Nat} (o : Nat) (hk_o : o < 90 ∧ g_KC o = g_kX2) {S : g_St} (z : Int32 × g_St) (h : f_X2_depthOfAll fu o S = some z) : g_Mi l g_KC 90 D ad cy zz yX2_depthOfAll wsX2_depthOfAll rm_X2_depthOfAll [.ref (ad o)] S z := by
  refine g_ofi hinj (cc := cX2_depthOfAll) (maxL := 3) (ret := (some .int)) (lv := [(0, .ref (ad o))]) (by decide) rfl (Nat.le_of_ble_eq_true rfl) rfl ?_
  intro x X hl hD ha hy hz
  subst hl hD ha hy hz
  unfold f_X2_depthOfAll at h
  refine g_iconst X (v := 0) dX2_depthOfAll_0 (by decide) ?_
  refine g_istore_n X [(1, _), (0, _)] dX2_depthOfAll_1 (by decide) rfl ?_
  refine g_iconst X (v := 0) dX2_depthOfAll_2 (by decide) ?_
  refine g_istore_n X [(2, _), (1, _), (0, _)] dX2_depthOfAll_3 (by decide) rfl ?_
  obtain ⟨e, he, h⟩ := g_th_s h
  refine g_sub [2, 1, 0] _ rfl ?_
  refine g_lp_w (body := (fun t => b_X2_depthOfAll_4 fu o t.1 t.2.1 t.2.2)) (P := fun t : Int32 × Int32 × g_St => g_V g_KC 90 x 3 (g_qi g_KC 90 x z) t.2.2 4 [(0, .ref (g_ad x o)), (1, .int (t.1)), (2, .int (t.2.1))] []) (E := (fun e : Int32 × g_St => g_V g_KC 90 x 3 (g_qi g_KC 90 x z) e.2 30 [(1, .int (e.1))] [])) (fun t r hb hc => vb_X2_depthOfAll_4 X o t.1 t.2.1 hk_o t.2.2 hb hc) fu ((0 : Int32), (0 : Int32), S) e he ?_
  obtain ⟨w1_1, S1⟩ := e
  show g_V g_KC 90 x 3 (g_qi g_KC 90 x z) S1 30 [(1, .int (w1_1))] []
  refine g_iload_n X dX2_depthOfAll_30 0 rfl ?_
  exact g_iret X h dX2_depthOfAll_31
abbrev rm_X2_manyOfAll : Room := { frames := 0, cells := 0, slots := 0, locals := 0 }
theorem hd_X2_manyOfAll : yX2_manyOfAll.cls = RX2 ∧ yX2_manyOfAll.cls ≠ "java/lang/invoke/MethodHandle" ∧ yX2_manyOfAll.cls ≠ "java/lang/invoke/VarHandle" ∧ (parseMethodDescriptor yX2_manyOfAll.desc).map (fun d => d.parameters.length) = some 0 := by decide +kernel
theorem w_X2_manyOfAll_29 : Cond.fieldLink RX2 29 "TokenDoors$Hall" "crowdCount" "I" ∈ wsX2_manyOfAll := by decide +kernel
theorem w_X2_manyOfAll_inX2 : ∀ w ∈ wsX20, w ∈ wsX2_manyOfAll := by decide +kernel
theorem w_X2_manyOfAll_19 : Cond.fieldLink RX2 19 "TokenDoors$Hall" "crowds" "[LTokenDoors$Crowd;" ∈ wsX2_manyOfAll := by decide +kernel
theorem w_X2_manyOfAll_48 : Cond.fieldLink RX2 48 "TokenDoors$Crowd" "many" "I" ∈ wsX2_manyOfAll := by decide +kernel
theorem w_X2_manyOfAll_inX0 : ∀ w ∈ wsX00, w ∈ wsX2_manyOfAll := by decide +kernel
def b_X2_manyOfAll_4 (fu : Nat) (v0 : Nat) (v1 : Int32) (v2 : Int32) (S : g_St) : Option ((Int32 × Int32 × g_St) ⊕ (Int32 × g_St)) :=
  if (S.1 v0 3) ≤ v2 then (some (.inr (v1, S))) else (g_ld g_KC 90 (.inr (4, 8, true)) (S.2 v0 1) fun a1 => g_ix v2 8 fun i2 => g_ld g_KC 90 g_kX0 (S.2 a1 i2) fun a2 => some (.inl ((v1 + (S.1 a2 1)), (v2 + 1), S)))
def f_X2_manyOfAll (fu : Nat) (o : Nat) (S : g_St) : Option (Int32 × g_St) :=
  g_th (g_lp (fun t => b_X2_manyOfAll_4 fu o t.1 t.2.1 t.2.2) fu ((0 : Int32), (0 : Int32), S)) fun e => match e with | (w1_1, S1) => some (w1_1, S1)
set_option maxRecDepth 100000 in
set_option maxHeartbeats 400000 in
theorem vb_X2_manyOfAll_4 {x : g_CX} {z : Int32 × g_St} {fu : Nat} (X : g_X 90 x cX2_manyOfAll RX2 3 wsX2_manyOfAll rm_X2_manyOfAll (some .int)) (v0 : Nat) (v1 : Int32) (v2 : Int32) (hk_v0 : v0 < 90 ∧ g_KC v0 = g_kX2) (S : g_St) {r : (Int32 × Int32 × g_St) ⊕ (Int32 × g_St)} (h : b_X2_manyOfAll_4 fu v0 v1 v2 S = some r) (hc : Sum.elim (fun t : Int32 × Int32 × g_St => g_V g_KC 90 x 3 (g_qi g_KC 90 x z) t.2.2 4 [(0, .ref (g_ad x v0)), (1, .int (t.1)), (2, .int (t.2.1))] []) (fun e : Int32 × g_St => g_V g_KC 90 x 3 (g_qi g_KC 90 x z) e.2 30 [(1, .int (e.1))] []) r) : g_V g_KC 90 x 3 (g_qi g_KC 90 x z) S 4 [(0, .ref (g_ad x v0)), (1, .int (v1)), (2, .int (v2))] [] := by
  unfold b_X2_manyOfAll_4 at h
  refine g_iload_n X dX2_manyOfAll_4 2 rfl ?_
  refine g_aload_n X dX2_manyOfAll_5 0 rfl ?_
  refine g_geti X g_cX2 w_X2_manyOfAll_inX2 3 (by decide) w_X2_manyOfAll_29 hk_v0 rfl dX2_manyOfAll_6 ?_
  refine g_icmp_ge X 30 dX2_manyOfAll_9 (by decide) h (fun c_9 h => ?_) (fun c_9 h => ?_)
  · skip
    cases h
    exact g_sub [1] _ rfl hc
  · skip
    refine g_iload_n X dX2_manyOfAll_12 1 rfl ?_
    refine g_aload_n X dX2_manyOfAll_13 0 rfl ?_
    refine g_getr X g_cX2 w_X2_manyOfAll_inX2 1 (by decide) w_X2_manyOfAll_19 hk_v0 rfl dX2_manyOfAll_14 h (fun a1 hk_a1 h => ?_)
    refine g_iload_n X dX2_manyOfAll_17 2 rfl ?_
    refine g_aald X 4 RX0 rfl hk_a1 dX2_manyOfAll_18 h (fun a2 hk_a2 h => ?_)
    refine g_geti X g_cX0 w_X2_manyOfAll_inX0 1 (by decide) w_X2_manyOfAll_48 hk_a2 rfl dX2_manyOfAll_19 ?_
    refine g_iadd X dX2_manyOfAll_22 ?_
    refine g_istore_n X [(1, _), (0, _), (2, _)] dX2_manyOfAll_23 (by decide) rfl ?_
    refine g_iinc X [(2, _), (1, _), (0, _)] dX2_manyOfAll_24 2 rfl rfl (by decide) rfl ?_
    refine g_goto X 4 dX2_manyOfAll_27 (by decide) ?_
    cases h
    exact g_sub [2, 1, 0] _ rfl hc
set_option maxRecDepth 100000 in
set_option maxHeartbeats 400000 in
theorem ct_X2_manyOfAll {l : Launch} {D : va_G} {ad : Nat → Nat} {cy : Nat → ClassId} {zz : (Nat → Nat) × (Nat → Nat)} (hinj : ∀ i j, i < 90 → j < 90 → ad i = ad j → i = j) {fu : Nat} (o : Nat) (hk_o : o < 90 ∧ g_KC o = g_kX2) {S : g_St} (z : Int32 × g_St) (h : f_X2_manyOfAll fu o S = some z) : g_Mi l g_KC 90 D ad cy zz yX2_manyOfAll wsX2_manyOfAll rm_X2_manyOfAll [.ref (ad o)] S z := by
  refine g_ofi hinj (cc := cX2_manyOfAll) (maxL := 3) (ret := (some .int)) (lv := [(0, .ref (ad o))]) (by decide) rfl (Nat.le_of_ble_eq_true rfl) rfl ?_
  intro x X hl hD ha hy hz
  subst hl hD ha hy hz
  unfold f_X2_manyOfAll at h
  refine g_iconst X (v := 0) dX2_manyOfAll_0 (by decide) ?_
  refine g_istore_n X [(1, _), (0, _)] dX2_manyOfAll_1 (by decide) rfl ?_
  refine g_iconst X (v := 0) dX2_manyOfAll_2 (by decide) ?_
  refine g_istore_n X [(2, _), (1, _), (0, _)] dX2_manyOfAll_3 (by decide) rfl ?_
  obtain ⟨e, he, h⟩ := g_th_s h
  refine g_sub [2, 1, 0] _ rfl ?_
  refine g_lp_w (body := (fun t => b_X2_manyOfAll_4 fu o t.1 t.2.1 t.2.2)) (P := fun t : Int32 × Int32 × g_St => g_V g_KC 90 x 3 (g_qi g_KC 90 x z) t.2.2 4 [(0, .ref (g_ad x o)), (1, .int (t.1)), (2, .int (t.2.1))] []) (E := (fun e : Int32 × g_St => g_V g_KC 90 x 3 (g_qi g_KC 90 x z) e.2 30 [(1, .int (e.1))] [])) (fun t r hb hc => vb_X2_manyOfAll_4 X o t.1 t.2.1 hk_o t.2.2 hb hc) fu ((0 : Int32), (0 : Int32), S) e he ?_
  obtain ⟨w1_1, S1⟩ := e
  show g_V g_KC 90 x 3 (g_qi g_KC 90 x z) S1 30 [(1, .int (w1_1))] []
  refine g_iload_n X dX2_manyOfAll_30 0 rfl ?_
  exact g_iret X h dX2_manyOfAll_31
end
