section
/-- a private method of a class that the tables say can be made, by its rows of tables_1 -/
def lw_okq (q : MethodName × Nat) : Prop := (q.1.cls ≠ "java/lang/invoke/MethodHandle" ∧ q.1.cls ≠ "java/lang/invoke/VarHandle") ∧ Cond.instantiable q.1.cls q.2 ∈ tables_1 ∧ Cond.privateMethod q.1 ∈ tables_1 ∧ Cond.instanceMethod q.1 ∈ tables_1
theorem lw_p0 : lw_okq (⟨"ServerHouse", "giveTurn", "()V"⟩, 9) := ⟨⟨by decide +kernel, by decide +kernel⟩, List.mem_of_getElem? (i := 19) (by decide +kernel), List.mem_of_getElem? (i := 400) (by decide +kernel), List.mem_of_getElem? (i := 401) (by decide +kernel)⟩
theorem lw_p1 : lw_okq (⟨"ServerHouse$Keeper", "watchDead", "(LServerHouse$Core;)V"⟩, 3) := ⟨⟨by decide +kernel, by decide +kernel⟩, List.mem_of_getElem? (i := 145) (by decide +kernel), List.mem_of_getElem? (i := 412) (by decide +kernel), List.mem_of_getElem? (i := 413) (by decide +kernel)⟩
theorem lw_p2 : lw_okq (⟨"ServerHouse$Keeper", "check", "(LServerHouse$Core;)Z"⟩, 3) := ⟨⟨by decide +kernel, by decide +kernel⟩, List.mem_of_getElem? (i := 145) (by decide +kernel), List.mem_of_getElem? (i := 432) (by decide +kernel), List.mem_of_getElem? (i := 433) (by decide +kernel)⟩
theorem lw_p3 : lw_okq (⟨"ServerHouse", "breakDriver", "()V"⟩, 9) := ⟨⟨by decide +kernel, by decide +kernel⟩, List.mem_of_getElem? (i := 19) (by decide +kernel), List.mem_of_getElem? (i := 436) (by decide +kernel), List.mem_of_getElem? (i := 437) (by decide +kernel)⟩
theorem lw_p4 : lw_okq (⟨"ServerHouse$Driver", "work", "(LServerHouse$Core;)V"⟩, 6) := ⟨⟨by decide +kernel, by decide +kernel⟩, List.mem_of_getElem? (i := 163) (by decide +kernel), List.mem_of_getElem? (i := 458) (by decide +kernel), List.mem_of_getElem? (i := 459) (by decide +kernel)⟩
theorem lw_p5 : lw_okq (⟨"ServerHouse$Driver", "begin", "(LServerHouse$Message;)V"⟩, 6) := ⟨⟨by decide +kernel, by decide +kernel⟩, List.mem_of_getElem? (i := 163) (by decide +kernel), List.mem_of_getElem? (i := 468) (by decide +kernel), List.mem_of_getElem? (i := 469) (by decide +kernel)⟩
theorem lw_p6 : lw_okq (⟨"ServerHouse$FileServer", "openFile", "(II)I"⟩, 11) := ⟨⟨by decide +kernel, by decide +kernel⟩, List.mem_of_getElem? (i := 192) (by decide +kernel), List.mem_of_getElem? (i := 481) (by decide +kernel), List.mem_of_getElem? (i := 482) (by decide +kernel)⟩
theorem lw_p7 : lw_okq (⟨"ServerHouse$OpenFiles", "slot", "(II)I"⟩, 2) := ⟨⟨by decide +kernel, by decide +kernel⟩, List.mem_of_getElem? (i := 227) (by decide +kernel), List.mem_of_getElem? (i := 489) (by decide +kernel), List.mem_of_getElem? (i := 490) (by decide +kernel)⟩
theorem lw_p8 : lw_okq (⟨"ServerHouse$FileServer", "removeFile", "(I)I"⟩, 11) := ⟨⟨by decide +kernel, by decide +kernel⟩, List.mem_of_getElem? (i := 192) (by decide +kernel), List.mem_of_getElem? (i := 507) (by decide +kernel), List.mem_of_getElem? (i := 508) (by decide +kernel)⟩
theorem lw_p9 : lw_okq (⟨"ServerHouse$FileTable", "release", "(I)V"⟩, 6) := ⟨⟨by decide +kernel, by decide +kernel⟩, List.mem_of_getElem? (i := 198) (by decide +kernel), List.mem_of_getElem? (i := 520) (by decide +kernel), List.mem_of_getElem? (i := 521) (by decide +kernel)⟩
theorem lw_p10 : lw_okq (⟨"ServerHouse$FileServer", "read", "(LServerHouse$Core;II)V"⟩, 11) := ⟨⟨by decide +kernel, by decide +kernel⟩, List.mem_of_getElem? (i := 192) (by decide +kernel), List.mem_of_getElem? (i := 524) (by decide +kernel), List.mem_of_getElem? (i := 525) (by decide +kernel)⟩
theorem lw_p11 : lw_okq (⟨"ServerHouse$FileServer", "takeInHand", "(IIZI)V"⟩, 11) := ⟨⟨by decide +kernel, by decide +kernel⟩, List.mem_of_getElem? (i := 192) (by decide +kernel), List.mem_of_getElem? (i := 540) (by decide +kernel), List.mem_of_getElem? (i := 541) (by decide +kernel)⟩
theorem lw_p12 : lw_okq (⟨"ServerHouse$FileServer", "ask", "(LServerHouse$Core;I)V"⟩, 11) := ⟨⟨by decide +kernel, by decide +kernel⟩, List.mem_of_getElem? (i := 192) (by decide +kernel), List.mem_of_getElem? (i := 550) (by decide +kernel), List.mem_of_getElem? (i := 551) (by decide +kernel)⟩
theorem lw_p13 : lw_okq (⟨"ServerHouse$FileServer", "write", "(LServerHouse$Core;III)V"⟩, 11) := ⟨⟨by decide +kernel, by decide +kernel⟩, List.mem_of_getElem? (i := 192) (by decide +kernel), List.mem_of_getElem? (i := 557) (by decide +kernel), List.mem_of_getElem? (i := 558) (by decide +kernel)⟩
theorem lw_p14 : lw_okq (⟨"ServerHouse$FileServer", "whyNotWrite", "(II)I"⟩, 11) := ⟨⟨by decide +kernel, by decide +kernel⟩, List.mem_of_getElem? (i := 192) (by decide +kernel), List.mem_of_getElem? (i := 561) (by decide +kernel), List.mem_of_getElem? (i := 562) (by decide +kernel)⟩
theorem lw_p15 : lw_okq (⟨"ServerHouse$FileServer", "goOn", "(LServerHouse$Core;[I)V"⟩, 11) := ⟨⟨by decide +kernel, by decide +kernel⟩, List.mem_of_getElem? (i := 192) (by decide +kernel), List.mem_of_getElem? (i := 573) (by decide +kernel), List.mem_of_getElem? (i := 574) (by decide +kernel)⟩
def lw_privs_1 : List (MethodName × Nat) := [(⟨"ServerHouse", "giveTurn", "()V"⟩, 9), (⟨"ServerHouse$Keeper", "watchDead", "(LServerHouse$Core;)V"⟩, 3), (⟨"ServerHouse$Keeper", "check", "(LServerHouse$Core;)Z"⟩, 3), (⟨"ServerHouse", "breakDriver", "()V"⟩, 9), (⟨"ServerHouse$Driver", "work", "(LServerHouse$Core;)V"⟩, 6), (⟨"ServerHouse$Driver", "begin", "(LServerHouse$Message;)V"⟩, 6), (⟨"ServerHouse$FileServer", "openFile", "(II)I"⟩, 11), (⟨"ServerHouse$OpenFiles", "slot", "(II)I"⟩, 2), (⟨"ServerHouse$FileServer", "removeFile", "(I)I"⟩, 11), (⟨"ServerHouse$FileTable", "release", "(I)V"⟩, 6), (⟨"ServerHouse$FileServer", "read", "(LServerHouse$Core;II)V"⟩, 11), (⟨"ServerHouse$FileServer", "takeInHand", "(IIZI)V"⟩, 11), (⟨"ServerHouse$FileServer", "ask", "(LServerHouse$Core;I)V"⟩, 11), (⟨"ServerHouse$FileServer", "write", "(LServerHouse$Core;III)V"⟩, 11), (⟨"ServerHouse$FileServer", "whyNotWrite", "(II)I"⟩, 11), (⟨"ServerHouse$FileServer", "goOn", "(LServerHouse$Core;[I)V"⟩, 11)]
theorem lw_r1 : ∀ q ∈ lw_privs_1, lw_okq q := List.forall_mem_cons.mpr ⟨lw_p0, List.forall_mem_cons.mpr ⟨lw_p1, List.forall_mem_cons.mpr ⟨lw_p2, List.forall_mem_cons.mpr ⟨lw_p3, List.forall_mem_cons.mpr ⟨lw_p4, List.forall_mem_cons.mpr ⟨lw_p5, List.forall_mem_cons.mpr ⟨lw_p6, List.forall_mem_cons.mpr ⟨lw_p7, List.forall_mem_cons.mpr ⟨lw_p8, List.forall_mem_cons.mpr ⟨lw_p9, List.forall_mem_cons.mpr ⟨lw_p10, List.forall_mem_cons.mpr ⟨lw_p11, List.forall_mem_cons.mpr ⟨lw_p12, List.forall_mem_cons.mpr ⟨lw_p13, List.forall_mem_cons.mpr ⟨lw_p14, List.forall_mem_cons.mpr ⟨lw_p15, fun _ h => absurd h List.not_mem_nil⟩⟩⟩⟩⟩⟩⟩⟩⟩⟩⟩⟩⟩⟩⟩⟩
theorem lw_p16 : lw_okq (⟨"ServerHouse$FileServer", "hearOfLife", "(LServerHouse$Core;I)V"⟩, 11) := ⟨⟨by decide +kernel, by decide +kernel⟩, List.mem_of_getElem? (i := 192) (by decide +kernel), List.mem_of_getElem? (i := 588) (by decide +kernel), List.mem_of_getElem? (i := 589) (by decide +kernel)⟩
theorem lw_p17 : lw_okq (⟨"ServerHouse$FileServer", "handle", "(IIII)I"⟩, 11) := ⟨⟨by decide +kernel, by decide +kernel⟩, List.mem_of_getElem? (i := 192) (by decide +kernel), List.mem_of_getElem? (i := 603) (by decide +kernel), List.mem_of_getElem? (i := 604) (by decide +kernel)⟩
theorem lw_p18 : lw_okq (⟨"ServerHouse$ProcessServer", "goOn", "(LServerHouse$Core;)V"⟩, 8) := ⟨⟨by decide +kernel, by decide +kernel⟩, List.mem_of_getElem? (i := 277) (by decide +kernel), List.mem_of_getElem? (i := 614) (by decide +kernel), List.mem_of_getElem? (i := 615) (by decide +kernel)⟩
theorem lw_p19 : lw_okq (⟨"ServerHouse$ProcessServer", "leaveChildren", "(I)V"⟩, 8) := ⟨⟨by decide +kernel, by decide +kernel⟩, List.mem_of_getElem? (i := 277) (by decide +kernel), List.mem_of_getElem? (i := 620) (by decide +kernel), List.mem_of_getElem? (i := 621) (by decide +kernel)⟩
theorem lw_p20 : lw_okq (⟨"ServerHouse$ProcessServer", "collect", "(I)I"⟩, 8) := ⟨⟨by decide +kernel, by decide +kernel⟩, List.mem_of_getElem? (i := 277) (by decide +kernel), List.mem_of_getElem? (i := 624) (by decide +kernel), List.mem_of_getElem? (i := 625) (by decide +kernel)⟩
theorem lw_p21 : lw_okq (⟨"ServerHouse$ProcessServer", "fork", "(LServerHouse$Core;I)V"⟩, 8) := ⟨⟨by decide +kernel, by decide +kernel⟩, List.mem_of_getElem? (i := 277) (by decide +kernel), List.mem_of_getElem? (i := 628) (by decide +kernel), List.mem_of_getElem? (i := 629) (by decide +kernel)⟩
theorem lw_p22 : lw_okq (⟨"ServerHouse$ProcessServer", "waitFor", "(ZII)V"⟩, 8) := ⟨⟨by decide +kernel, by decide +kernel⟩, List.mem_of_getElem? (i := 277) (by decide +kernel), List.mem_of_getElem? (i := 632) (by decide +kernel), List.mem_of_getElem? (i := 633) (by decide +kernel)⟩
theorem lw_p23 : lw_okq (⟨"ServerHouse$ProcessServer", "end", "(LServerHouse$Core;LServerHouse$Users;III)V"⟩, 8) := ⟨⟨by decide +kernel, by decide +kernel⟩, List.mem_of_getElem? (i := 277) (by decide +kernel), List.mem_of_getElem? (i := 637) (by decide +kernel), List.mem_of_getElem? (i := 638) (by decide +kernel)⟩
theorem lw_p24 : lw_okq (⟨"ServerHouse$ProcessServer", "await", "(LServerHouse$Core;I)V"⟩, 8) := ⟨⟨by decide +kernel, by decide +kernel⟩, List.mem_of_getElem? (i := 277) (by decide +kernel), List.mem_of_getElem? (i := 648) (by decide +kernel), List.mem_of_getElem? (i := 649) (by decide +kernel)⟩
theorem lw_p25 : lw_okq (⟨"java/lang/Throwable", "fillInStackTrace", "(I)Ljava/lang/Throwable;"⟩, 6) := ⟨⟨by decide +kernel, by decide +kernel⟩, List.mem_of_getElem? (i := 750) (by decide +kernel), List.mem_of_getElem? (i := 748) (by decide +kernel), List.mem_of_getElem? (i := 749) (by decide +kernel)⟩
theorem lw_p26 : lw_okq (⟨"ServerHouseModel", "turn", "()V"⟩, 49) := ⟨⟨by decide +kernel, by decide +kernel⟩, List.mem_of_getElem? (i := 809) (by decide +kernel), List.mem_of_getElem? (i := 967) (by decide +kernel), List.mem_of_getElem? (i := 968) (by decide +kernel)⟩
theorem lw_p27 : lw_okq (⟨"ServerHouseModel", "lives", "(I)Z"⟩, 49) := ⟨⟨by decide +kernel, by decide +kernel⟩, List.mem_of_getElem? (i := 809) (by decide +kernel), List.mem_of_getElem? (i := 971) (by decide +kernel), List.mem_of_getElem? (i := 972) (by decide +kernel)⟩
theorem lw_p28 : lw_okq (⟨"ServerHouseModel", "keeper", "()V"⟩, 49) := ⟨⟨by decide +kernel, by decide +kernel⟩, List.mem_of_getElem? (i := 809) (by decide +kernel), List.mem_of_getElem? (i := 978) (by decide +kernel), List.mem_of_getElem? (i := 979) (by decide +kernel)⟩
theorem lw_p29 : lw_okq (⟨"ServerHouseModel", "sendsAgain", "(I)Z"⟩, 49) := ⟨⟨by decide +kernel, by decide +kernel⟩, List.mem_of_getElem? (i := 809) (by decide +kernel), List.mem_of_getElem? (i := 982) (by decide +kernel), List.mem_of_getElem? (i := 983) (by decide +kernel)⟩
theorem lw_p30 : lw_okq (⟨"ServerHouseModel", "sends", "(II)V"⟩, 49) := ⟨⟨by decide +kernel, by decide +kernel⟩, List.mem_of_getElem? (i := 809) (by decide +kernel), List.mem_of_getElem? (i := 986) (by decide +kernel), List.mem_of_getElem? (i := 987) (by decide +kernel)⟩
theorem lw_p31 : lw_okq (⟨"ServerHouseModel", "send", "(IIZ)I"⟩, 49) := ⟨⟨by decide +kernel, by decide +kernel⟩, List.mem_of_getElem? (i := 809) (by decide +kernel), List.mem_of_getElem? (i := 990) (by decide +kernel), List.mem_of_getElem? (i := 991) (by decide +kernel)⟩
def lw_privs_2 : List (MethodName × Nat) := [(⟨"ServerHouse$FileServer", "hearOfLife", "(LServerHouse$Core;I)V"⟩, 11), (⟨"ServerHouse$FileServer", "handle", "(IIII)I"⟩, 11), (⟨"ServerHouse$ProcessServer", "goOn", "(LServerHouse$Core;)V"⟩, 8), (⟨"ServerHouse$ProcessServer", "leaveChildren", "(I)V"⟩, 8), (⟨"ServerHouse$ProcessServer", "collect", "(I)I"⟩, 8), (⟨"ServerHouse$ProcessServer", "fork", "(LServerHouse$Core;I)V"⟩, 8), (⟨"ServerHouse$ProcessServer", "waitFor", "(ZII)V"⟩, 8), (⟨"ServerHouse$ProcessServer", "end", "(LServerHouse$Core;LServerHouse$Users;III)V"⟩, 8), (⟨"ServerHouse$ProcessServer", "await", "(LServerHouse$Core;I)V"⟩, 8), (⟨"java/lang/Throwable", "fillInStackTrace", "(I)Ljava/lang/Throwable;"⟩, 6), (⟨"ServerHouseModel", "turn", "()V"⟩, 49), (⟨"ServerHouseModel", "lives", "(I)Z"⟩, 49), (⟨"ServerHouseModel", "keeper", "()V"⟩, 49), (⟨"ServerHouseModel", "sendsAgain", "(I)Z"⟩, 49), (⟨"ServerHouseModel", "sends", "(II)V"⟩, 49), (⟨"ServerHouseModel", "send", "(IIZ)I"⟩, 49)]
theorem lw_r2 : ∀ q ∈ lw_privs_2, lw_okq q := List.forall_mem_cons.mpr ⟨lw_p16, List.forall_mem_cons.mpr ⟨lw_p17, List.forall_mem_cons.mpr ⟨lw_p18, List.forall_mem_cons.mpr ⟨lw_p19, List.forall_mem_cons.mpr ⟨lw_p20, List.forall_mem_cons.mpr ⟨lw_p21, List.forall_mem_cons.mpr ⟨lw_p22, List.forall_mem_cons.mpr ⟨lw_p23, List.forall_mem_cons.mpr ⟨lw_p24, List.forall_mem_cons.mpr ⟨lw_p25, List.forall_mem_cons.mpr ⟨lw_p26, List.forall_mem_cons.mpr ⟨lw_p27, List.forall_mem_cons.mpr ⟨lw_p28, List.forall_mem_cons.mpr ⟨lw_p29, List.forall_mem_cons.mpr ⟨lw_p30, List.forall_mem_cons.mpr ⟨lw_p31, fun _ h => absurd h List.not_mem_nil⟩⟩⟩⟩⟩⟩⟩⟩⟩⟩⟩⟩⟩⟩⟩⟩
theorem lw_p32 : lw_okq (⟨"ServerHouseModel", "starts", "()V"⟩, 49) := ⟨⟨by decide +kernel, by decide +kernel⟩, List.mem_of_getElem? (i := 809) (by decide +kernel), List.mem_of_getElem? (i := 997) (by decide +kernel), List.mem_of_getElem? (i := 998) (by decide +kernel)⟩
theorem lw_p33 : lw_okq (⟨"ServerHouseModel", "drafts", "(III)V"⟩, 49) := ⟨⟨by decide +kernel, by decide +kernel⟩, List.mem_of_getElem? (i := 809) (by decide +kernel), List.mem_of_getElem? (i := 1001) (by decide +kernel), List.mem_of_getElem? (i := 1002) (by decide +kernel)⟩
theorem lw_p34 : lw_okq (⟨"ServerHouseModel", "takeOut", "(II)V"⟩, 49) := ⟨⟨by decide +kernel, by decide +kernel⟩, List.mem_of_getElem? (i := 809) (by decide +kernel), List.mem_of_getElem? (i := 1005) (by decide +kernel), List.mem_of_getElem? (i := 1006) (by decide +kernel)⟩
theorem lw_p35 : lw_okq (⟨"ServerHouseModel", "drop", "(II)V"⟩, 49) := ⟨⟨by decide +kernel, by decide +kernel⟩, List.mem_of_getElem? (i := 809) (by decide +kernel), List.mem_of_getElem? (i := 1009) (by decide +kernel), List.mem_of_getElem? (i := 1010) (by decide +kernel)⟩
theorem lw_p36 : lw_okq (⟨"ServerHouseModel", "crashesNow", "()V"⟩, 49) := ⟨⟨by decide +kernel, by decide +kernel⟩, List.mem_of_getElem? (i := 809) (by decide +kernel), List.mem_of_getElem? (i := 1013) (by decide +kernel), List.mem_of_getElem? (i := 1014) (by decide +kernel)⟩
theorem lw_p37 : lw_okq (⟨"ServerHouseModel", "driver", "()V"⟩, 49) := ⟨⟨by decide +kernel, by decide +kernel⟩, List.mem_of_getElem? (i := 809) (by decide +kernel), List.mem_of_getElem? (i := 1017) (by decide +kernel), List.mem_of_getElem? (i := 1018) (by decide +kernel)⟩
theorem lw_p38 : lw_okq (⟨"ServerHouseModel", "field", "(III)I"⟩, 49) := ⟨⟨by decide +kernel, by decide +kernel⟩, List.mem_of_getElem? (i := 809) (by decide +kernel), List.mem_of_getElem? (i := 1021) (by decide +kernel), List.mem_of_getElem? (i := 1022) (by decide +kernel)⟩
theorem lw_p39 : lw_okq (⟨"ServerHouseModel", "works", "()V"⟩, 49) := ⟨⟨by decide +kernel, by decide +kernel⟩, List.mem_of_getElem? (i := 809) (by decide +kernel), List.mem_of_getElem? (i := 1025) (by decide +kernel), List.mem_of_getElem? (i := 1026) (by decide +kernel)⟩
theorem lw_p40 : lw_okq (⟨"ServerHouseModel", "files", "()V"⟩, 49) := ⟨⟨by decide +kernel, by decide +kernel⟩, List.mem_of_getElem? (i := 809) (by decide +kernel), List.mem_of_getElem? (i := 1029) (by decide +kernel), List.mem_of_getElem? (i := 1030) (by decide +kernel)⟩
theorem lw_p41 : lw_okq (⟨"ServerHouseModel", "goesOn", "()V"⟩, 49) := ⟨⟨by decide +kernel, by decide +kernel⟩, List.mem_of_getElem? (i := 809) (by decide +kernel), List.mem_of_getElem? (i := 1033) (by decide +kernel), List.mem_of_getElem? (i := 1034) (by decide +kernel)⟩
theorem lw_p42 : lw_okq (⟨"ServerHouseModel", "tells", "(III)V"⟩, 49) := ⟨⟨by decide +kernel, by decide +kernel⟩, List.mem_of_getElem? (i := 809) (by decide +kernel), List.mem_of_getElem? (i := 1037) (by decide +kernel), List.mem_of_getElem? (i := 1038) (by decide +kernel)⟩
theorem lw_p43 : lw_okq (⟨"ServerHouseModel", "asksDriver", "()V"⟩, 49) := ⟨⟨by decide +kernel, by decide +kernel⟩, List.mem_of_getElem? (i := 809) (by decide +kernel), List.mem_of_getElem? (i := 1041) (by decide +kernel), List.mem_of_getElem? (i := 1042) (by decide +kernel)⟩
theorem lw_p44 : lw_okq (⟨"ServerHouseModel", "copies", "(II)V"⟩, 49) := ⟨⟨by decide +kernel, by decide +kernel⟩, List.mem_of_getElem? (i := 809) (by decide +kernel), List.mem_of_getElem? (i := 1045) (by decide +kernel), List.mem_of_getElem? (i := 1046) (by decide +kernel)⟩
theorem lw_p45 : lw_okq (⟨"ServerHouseModel", "closesAll", "(I)V"⟩, 49) := ⟨⟨by decide +kernel, by decide +kernel⟩, List.mem_of_getElem? (i := 809) (by decide +kernel), List.mem_of_getElem? (i := 1049) (by decide +kernel), List.mem_of_getElem? (i := 1050) (by decide +kernel)⟩
theorem lw_p46 : lw_okq (⟨"ServerHouseModel", "begins", "(IIII)V"⟩, 49) := ⟨⟨by decide +kernel, by decide +kernel⟩, List.mem_of_getElem? (i := 809) (by decide +kernel), List.mem_of_getElem? (i := 1053) (by decide +kernel), List.mem_of_getElem? (i := 1054) (by decide +kernel)⟩
theorem lw_p47 : lw_okq (⟨"ServerHouseModel", "opens", "(II)I"⟩, 49) := ⟨⟨by decide +kernel, by decide +kernel⟩, List.mem_of_getElem? (i := 809) (by decide +kernel), List.mem_of_getElem? (i := 1057) (by decide +kernel), List.mem_of_getElem? (i := 1058) (by decide +kernel)⟩
def lw_privs_3 : List (MethodName × Nat) := [(⟨"ServerHouseModel", "starts", "()V"⟩, 49), (⟨"ServerHouseModel", "drafts", "(III)V"⟩, 49), (⟨"ServerHouseModel", "takeOut", "(II)V"⟩, 49), (⟨"ServerHouseModel", "drop", "(II)V"⟩, 49), (⟨"ServerHouseModel", "crashesNow", "()V"⟩, 49), (⟨"ServerHouseModel", "driver", "()V"⟩, 49), (⟨"ServerHouseModel", "field", "(III)I"⟩, 49), (⟨"ServerHouseModel", "works", "()V"⟩, 49), (⟨"ServerHouseModel", "files", "()V"⟩, 49), (⟨"ServerHouseModel", "goesOn", "()V"⟩, 49), (⟨"ServerHouseModel", "tells", "(III)V"⟩, 49), (⟨"ServerHouseModel", "asksDriver", "()V"⟩, 49), (⟨"ServerHouseModel", "copies", "(II)V"⟩, 49), (⟨"ServerHouseModel", "closesAll", "(I)V"⟩, 49), (⟨"ServerHouseModel", "begins", "(IIII)V"⟩, 49), (⟨"ServerHouseModel", "opens", "(II)I"⟩, 49)]
theorem lw_r3 : ∀ q ∈ lw_privs_3, lw_okq q := List.forall_mem_cons.mpr ⟨lw_p32, List.forall_mem_cons.mpr ⟨lw_p33, List.forall_mem_cons.mpr ⟨lw_p34, List.forall_mem_cons.mpr ⟨lw_p35, List.forall_mem_cons.mpr ⟨lw_p36, List.forall_mem_cons.mpr ⟨lw_p37, List.forall_mem_cons.mpr ⟨lw_p38, List.forall_mem_cons.mpr ⟨lw_p39, List.forall_mem_cons.mpr ⟨lw_p40, List.forall_mem_cons.mpr ⟨lw_p41, List.forall_mem_cons.mpr ⟨lw_p42, List.forall_mem_cons.mpr ⟨lw_p43, List.forall_mem_cons.mpr ⟨lw_p44, List.forall_mem_cons.mpr ⟨lw_p45, List.forall_mem_cons.mpr ⟨lw_p46, List.forall_mem_cons.mpr ⟨lw_p47, fun _ h => absurd h List.not_mem_nil⟩⟩⟩⟩⟩⟩⟩⟩⟩⟩⟩⟩⟩⟩⟩⟩
theorem lw_p48 : lw_okq (⟨"ServerHouseModel", "filesThere", "()I"⟩, 49) := ⟨⟨by decide +kernel, by decide +kernel⟩, List.mem_of_getElem? (i := 809) (by decide +kernel), List.mem_of_getElem? (i := 1061) (by decide +kernel), List.mem_of_getElem? (i := 1062) (by decide +kernel)⟩
theorem lw_p49 : lw_okq (⟨"ServerHouseModel", "removes", "(I)I"⟩, 49) := ⟨⟨by decide +kernel, by decide +kernel⟩, List.mem_of_getElem? (i := 809) (by decide +kernel), List.mem_of_getElem? (i := 1065) (by decide +kernel), List.mem_of_getElem? (i := 1066) (by decide +kernel)⟩
theorem lw_p50 : lw_okq (⟨"ServerHouseModel", "reads", "(III)V"⟩, 49) := ⟨⟨by decide +kernel, by decide +kernel⟩, List.mem_of_getElem? (i := 809) (by decide +kernel), List.mem_of_getElem? (i := 1069) (by decide +kernel), List.mem_of_getElem? (i := 1070) (by decide +kernel)⟩
theorem lw_p51 : lw_okq (⟨"ServerHouseModel", "writes", "(IIII)V"⟩, 49) := ⟨⟨by decide +kernel, by decide +kernel⟩, List.mem_of_getElem? (i := 809) (by decide +kernel), List.mem_of_getElem? (i := 1073) (by decide +kernel), List.mem_of_getElem? (i := 1074) (by decide +kernel)⟩
theorem lw_p52 : lw_okq (⟨"ServerHouseModel", "processes", "()V"⟩, 49) := ⟨⟨by decide +kernel, by decide +kernel⟩, List.mem_of_getElem? (i := 809) (by decide +kernel), List.mem_of_getElem? (i := 1077) (by decide +kernel), List.mem_of_getElem? (i := 1078) (by decide +kernel)⟩
theorem lw_p53 : lw_okq (⟨"ServerHouseModel", "forks", "(I)V"⟩, 49) := ⟨⟨by decide +kernel, by decide +kernel⟩, List.mem_of_getElem? (i := 809) (by decide +kernel), List.mem_of_getElem? (i := 1081) (by decide +kernel), List.mem_of_getElem? (i := 1082) (by decide +kernel)⟩
theorem lw_p54 : lw_okq (⟨"ServerHouseModel", "holds", "(III)V"⟩, 49) := ⟨⟨by decide +kernel, by decide +kernel⟩, List.mem_of_getElem? (i := 809) (by decide +kernel), List.mem_of_getElem? (i := 1085) (by decide +kernel), List.mem_of_getElem? (i := 1086) (by decide +kernel)⟩
theorem lw_p55 : lw_okq (⟨"ServerHouseModel", "ends", "(IIII)V"⟩, 49) := ⟨⟨by decide +kernel, by decide +kernel⟩, List.mem_of_getElem? (i := 809) (by decide +kernel), List.mem_of_getElem? (i := 1090) (by decide +kernel), List.mem_of_getElem? (i := 1091) (by decide +kernel)⟩
theorem lw_p56 : lw_okq (⟨"ServerHouseModel", "waitsFor", "(I)V"⟩, 49) := ⟨⟨by decide +kernel, by decide +kernel⟩, List.mem_of_getElem? (i := 809) (by decide +kernel), List.mem_of_getElem? (i := 1094) (by decide +kernel), List.mem_of_getElem? (i := 1095) (by decide +kernel)⟩
theorem lw_p57 : lw_okq (⟨"ServerHouseModel", "freed", "(I)I"⟩, 49) := ⟨⟨by decide +kernel, by decide +kernel⟩, List.mem_of_getElem? (i := 809) (by decide +kernel), List.mem_of_getElem? (i := 1098) (by decide +kernel), List.mem_of_getElem? (i := 1099) (by decide +kernel)⟩
theorem lw_p58 : lw_okq (⟨"ServerHouseModel", "done", "()V"⟩, 49) := ⟨⟨by decide +kernel, by decide +kernel⟩, List.mem_of_getElem? (i := 809) (by decide +kernel), List.mem_of_getElem? (i := 1102) (by decide +kernel), List.mem_of_getElem? (i := 1103) (by decide +kernel)⟩
theorem lw_p59 : lw_okq (⟨"ServerHouseModel", "ofUser", "(I)V"⟩, 49) := ⟨⟨by decide +kernel, by decide +kernel⟩, List.mem_of_getElem? (i := 809) (by decide +kernel), List.mem_of_getElem? (i := 1106) (by decide +kernel), List.mem_of_getElem? (i := 1107) (by decide +kernel)⟩
def lw_privs_4 : List (MethodName × Nat) := [(⟨"ServerHouseModel", "filesThere", "()I"⟩, 49), (⟨"ServerHouseModel", "removes", "(I)I"⟩, 49), (⟨"ServerHouseModel", "reads", "(III)V"⟩, 49), (⟨"ServerHouseModel", "writes", "(IIII)V"⟩, 49), (⟨"ServerHouseModel", "processes", "()V"⟩, 49), (⟨"ServerHouseModel", "forks", "(I)V"⟩, 49), (⟨"ServerHouseModel", "holds", "(III)V"⟩, 49), (⟨"ServerHouseModel", "ends", "(IIII)V"⟩, 49), (⟨"ServerHouseModel", "waitsFor", "(I)V"⟩, 49), (⟨"ServerHouseModel", "freed", "(I)I"⟩, 49), (⟨"ServerHouseModel", "done", "()V"⟩, 49), (⟨"ServerHouseModel", "ofUser", "(I)V"⟩, 49)]
theorem lw_r4 : ∀ q ∈ lw_privs_4, lw_okq q := List.forall_mem_cons.mpr ⟨lw_p48, List.forall_mem_cons.mpr ⟨lw_p49, List.forall_mem_cons.mpr ⟨lw_p50, List.forall_mem_cons.mpr ⟨lw_p51, List.forall_mem_cons.mpr ⟨lw_p52, List.forall_mem_cons.mpr ⟨lw_p53, List.forall_mem_cons.mpr ⟨lw_p54, List.forall_mem_cons.mpr ⟨lw_p55, List.forall_mem_cons.mpr ⟨lw_p56, List.forall_mem_cons.mpr ⟨lw_p57, List.forall_mem_cons.mpr ⟨lw_p58, List.forall_mem_cons.mpr ⟨lw_p59, fun _ h => absurd h List.not_mem_nil⟩⟩⟩⟩⟩⟩⟩⟩⟩⟩⟩⟩
def lw_privs : List (MethodName × Nat) := lw_privs_1 ++ (lw_privs_2 ++ (lw_privs_3 ++ (lw_privs_4)))
def lw_tbl : List Cond := k2_sels lw_privs ++ tables_1
theorem lw_privs_ok : ∀ q ∈ lw_privs, lw_okq q := by
  show ∀ q ∈ lw_privs_1 ++ (lw_privs_2 ++ (lw_privs_3 ++ (lw_privs_4))), lw_okq q
  exact List.forall_mem_append.mpr ⟨lw_r1, List.forall_mem_append.mpr ⟨lw_r2, List.forall_mem_append.mpr ⟨lw_r3, lw_r4⟩⟩⟩
end
section
def RX0 : String := "ServerHouse$Box"
def TX0 : u_T := fun k => match k with
  | 0 => ("ServerHouse$Box", "row", "[LServerHouse$Message;", true)
  | _ => ("ServerHouse$Box", "size", "I", false)
def tyX0 : Nat → FieldType := fun k => match k with
  | 0 => .array (.object "ServerHouse$Message")
  | _ => .int
abbrev wsX00 : List Cond := u_ws RX0 TX0 2
theorem nmX0 : ∀ a, a < 2 → ∀ b, b < 2 → a ≠ b → (TX0 a).2.1 ≠ (TX0 b).2.1 := by decide +kernel
theorem tyX0_ok : ∀ k, k < 2 → parseFieldDescriptor (TX0 k).2.2.1 = some (tyX0 k) := by decide +kernel
abbrev cX0_init : ByteArray := prog_2_method_1_code
def yX0_init : MethodName := ⟨RX0, "<init>", "()V"⟩
abbrev cX0_look : ByteArray := prog_2_method_2_code
def yX0_look : MethodName := ⟨RX0, "look", "(I)LServerHouse$Message;"⟩
abbrev cX0_grow : ByteArray := prog_2_method_3_code
def yX0_grow : MethodName := ⟨RX0, "grow", "()LServerHouse$Message;"⟩
abbrev cX0_take : ByteArray := prog_2_method_4_code
def yX0_take : MethodName := ⟨RX0, "take", "(I)LServerHouse$Message;"⟩
abbrev cX0_firstFor : ByteArray := prog_2_method_5_code
def yX0_firstFor : MethodName := ⟨RX0, "firstFor", "(I)I"⟩
abbrev cX0_firstOf : ByteArray := prog_2_method_6_code
def yX0_firstOf : MethodName := ⟨RX0, "firstOf", "(I)I"⟩
abbrev cX0_dropFrom : ByteArray := prog_2_method_7_code
def yX0_dropFrom : MethodName := ⟨RX0, "dropFrom", "(I)V"⟩
def RX1 : String := "ServerHouse$Core"
def TX1 : u_T := fun k => match k with
  | 0 => ("ServerHouse$Core", "boxes", "[LServerHouse$Box;", true)
  | 1 => ("ServerHouse$Core", "lives", "[Z", true)
  | 2 => ("ServerHouse$Core", "drafts", "[LServerHouse$Message;", true)
  | 3 => ("ServerHouse$Core", "loose", "LServerHouse$Message;", true)
  | 4 => ("ServerHouse$Core", "driverLife", "I", false)
  | 5 => ("ServerHouse$Core", "forbidden", "I", false)
  | _ => ("ServerHouse$Core", "passed", "I", false)
def tyX1 : Nat → FieldType := fun k => match k with
  | 0 => .array (.object "ServerHouse$Box")
  | 1 => .array .boolean
  | 2 => .array (.object "ServerHouse$Message")
  | 3 => .object "ServerHouse$Message"
  | 4 => .int
  | 5 => .int
  | _ => .int
abbrev wsX10 : List Cond := u_ws RX1 TX1 7
theorem nmX1 : ∀ a, a < 7 → ∀ b, b < 7 → a ≠ b → (TX1 a).2.1 ≠ (TX1 b).2.1 := by decide +kernel
theorem tyX1_ok : ∀ k, k < 7 → parseFieldDescriptor (TX1 k).2.2.1 = some (tyX1 k) := by decide +kernel
abbrev cX1_init : ByteArray := prog_3_method_1_code
def yX1_init : MethodName := ⟨RX1, "<init>", "()V"⟩
abbrev cX1_draft : ByteArray := prog_3_method_2_code
def yX1_draft : MethodName := ⟨RX1, "draft", "(IIII)LServerHouse$Message;"⟩
abbrev cX1_send : ByteArray := prog_3_method_3_code
def yX1_send : MethodName := ⟨RX1, "send", "(IIIII)V"⟩
abbrev cX1_postLoose : ByteArray := prog_3_method_4_code
def yX1_postLoose : MethodName := ⟨RX1, "postLoose", "(IIIII)I"⟩
abbrev cX1_sendHeld : ByteArray := prog_3_method_5_code
def yX1_sendHeld : MethodName := ⟨RX1, "sendHeld", "(I)Z"⟩
abbrev cX1_post : ByteArray := prog_3_method_6_code
def yX1_post : MethodName := ⟨RX1, "post", "(LServerHouse$Message;I)I"⟩
abbrev cX1_end : ByteArray := prog_3_method_7_code
def yX1_end : MethodName := ⟨RX1, "end", "(I)V"⟩
abbrev cX1_startDriver : ByteArray := prog_3_method_8_code
def yX1_startDriver : MethodName := ⟨RX1, "startDriver", "()V"⟩
abbrev cX1_livingUsers : ByteArray := prog_3_method_9_code
def yX1_livingUsers : MethodName := ⟨RX1, "livingUsers", "()I"⟩
def RX2 : String := "ServerHouse$Driver"
def TX2 : u_T := fun k => match k with
  | 0 => ("ServerHouse$Driver", "disk", "[I", true)
  | 1 => ("ServerHouse$Driver", "numbers", "[I", true)
  | 2 => ("ServerHouse$Driver", "hanging", "Z", false)
  | 3 => ("ServerHouse$Driver", "arm", "I", false)
  | 4 => ("ServerHouse$Driver", "job", "I", false)
  | _ => ("ServerHouse$Driver", "block", "I", false)
def tyX2 : Nat → FieldType := fun k => match k with
  | 0 => .array .int
  | 1 => .array .int
  | 2 => .boolean
  | 3 => .int
  | 4 => .int
  | _ => .int
abbrev wsX20 : List Cond := u_ws RX2 TX2 6
theorem nmX2 : ∀ a, a < 6 → ∀ b, b < 6 → a ≠ b → (TX2 a).2.1 ≠ (TX2 b).2.1 := by decide +kernel
theorem tyX2_ok : ∀ k, k < 6 → parseFieldDescriptor (TX2 k).2.2.1 = some (tyX2 k) := by decide +kernel
abbrev cX2_init : ByteArray := prog_4_method_1_code
def yX2_init : MethodName := ⟨RX2, "<init>", "()V"⟩
abbrev cX2_takeTurn : ByteArray := prog_4_method_2_code
def yX2_takeTurn : MethodName := ⟨RX2, "takeTurn", "(LServerHouse$Core;)V"⟩
abbrev cX2_begin : ByteArray := prog_4_method_3_code
def yX2_begin : MethodName := ⟨RX2, "begin", "(LServerHouse$Message;)V"⟩
abbrev cX2_work : ByteArray := prog_4_method_4_code
def yX2_work : MethodName := ⟨RX2, "work", "(LServerHouse$Core;)V"⟩
abbrev cX2_loseAll : ByteArray := prog_4_method_5_code
def yX2_loseAll : MethodName := ⟨RX2, "loseAll", "()V"⟩
def RX3 : String := "ServerHouse$FileServer"
def TX3 : u_T := fun k => match k with
  | 0 => ("ServerHouse$FileServer", "table", "LServerHouse$FileTable;", true)
  | 1 => ("ServerHouse$FileServer", "open", "LServerHouse$OpenFiles;", true)
  | 2 => ("ServerHouse$FileServer", "waiting", "Z", false)
  | 3 => ("ServerHouse$FileServer", "numbers", "[I", true)
  | 4 => ("ServerHouse$FileServer", "toldLife", "I", false)
  | 5 => ("ServerHouse$FileServer", "reading", "Z", false)
  | 6 => ("ServerHouse$FileServer", "caller", "I", false)
  | 7 => ("ServerHouse$FileServer", "descriptor", "I", false)
  | 8 => ("ServerHouse$FileServer", "value", "I", false)
  | 9 => ("ServerHouse$FileServer", "request", "I", false)
  | _ => ("ServerHouse$FileServer", "block", "I", false)
def tyX3 : Nat → FieldType := fun k => match k with
  | 0 => .object "ServerHouse$FileTable"
  | 1 => .object "ServerHouse$OpenFiles"
  | 2 => .boolean
  | 3 => .array .int
  | 4 => .int
  | 5 => .boolean
  | 6 => .int
  | 7 => .int
  | 8 => .int
  | 9 => .int
  | _ => .int
abbrev wsX30 : List Cond := u_ws RX3 TX3 11
theorem nmX3 : ∀ a, a < 11 → ∀ b, b < 11 → a ≠ b → (TX3 a).2.1 ≠ (TX3 b).2.1 := by decide +kernel
theorem tyX3_ok : ∀ k, k < 11 → parseFieldDescriptor (TX3 k).2.2.1 = some (tyX3 k) := by decide +kernel
abbrev cX3_init : ByteArray := prog_5_method_1_code
def yX3_init : MethodName := ⟨RX3, "<init>", "()V"⟩
abbrev cX3_takeTurn : ByteArray := prog_5_method_2_code
def yX3_takeTurn : MethodName := ⟨RX3, "takeTurn", "(LServerHouse$Core;)V"⟩
abbrev cX3_handle : ByteArray := prog_5_method_3_code
def yX3_handle : MethodName := ⟨RX3, "handle", "(IIII)I"⟩
abbrev cX3_openFile : ByteArray := prog_5_method_4_code
def yX3_openFile : MethodName := ⟨RX3, "openFile", "(II)I"⟩
abbrev cX3_removeFile : ByteArray := prog_5_method_5_code
def yX3_removeFile : MethodName := ⟨RX3, "removeFile", "(I)I"⟩
abbrev cX3_read : ByteArray := prog_5_method_6_code
def yX3_read : MethodName := ⟨RX3, "read", "(LServerHouse$Core;II)V"⟩
abbrev cX3_write : ByteArray := prog_5_method_7_code
def yX3_write : MethodName := ⟨RX3, "write", "(LServerHouse$Core;III)V"⟩
abbrev cX3_whyNotWrite : ByteArray := prog_5_method_8_code
def yX3_whyNotWrite : MethodName := ⟨RX3, "whyNotWrite", "(II)I"⟩
abbrev cX3_takeInHand : ByteArray := prog_5_method_9_code
def yX3_takeInHand : MethodName := ⟨RX3, "takeInHand", "(IIZI)V"⟩
abbrev cX3_ask : ByteArray := prog_5_method_10_code
def yX3_ask : MethodName := ⟨RX3, "ask", "(LServerHouse$Core;I)V"⟩
abbrev cX3_hearOfLife : ByteArray := prog_5_method_11_code
def yX3_hearOfLife : MethodName := ⟨RX3, "hearOfLife", "(LServerHouse$Core;I)V"⟩
abbrev cX3_goOn : ByteArray := prog_5_method_12_code
def yX3_goOn : MethodName := ⟨RX3, "goOn", "(LServerHouse$Core;[I)V"⟩
def RX4 : String := "ServerHouse$FileTable"
def TX4 : u_T := fun k => match k with
  | 0 => ("ServerHouse$FileTable", "there", "[Z", true)
  | 1 => ("ServerHouse$FileTable", "sizes", "[I", true)
  | 2 => ("ServerHouse$FileTable", "blocks", "[I", true)
  | 3 => ("ServerHouse$FileTable", "taken", "[Z", true)
  | 4 => ("ServerHouse$FileTable", "files", "I", false)
  | _ => ("ServerHouse$FileTable", "freeBlocks", "I", false)
def tyX4 : Nat → FieldType := fun k => match k with
  | 0 => .array .boolean
  | 1 => .array .int
  | 2 => .array .int
  | 3 => .array .boolean
  | 4 => .int
  | _ => .int
abbrev wsX40 : List Cond := u_ws RX4 TX4 6
theorem nmX4 : ∀ a, a < 6 → ∀ b, b < 6 → a ≠ b → (TX4 a).2.1 ≠ (TX4 b).2.1 := by decide +kernel
theorem tyX4_ok : ∀ k, k < 6 → parseFieldDescriptor (TX4 k).2.2.1 = some (tyX4 k) := by decide +kernel
abbrev cX4_init : ByteArray := prog_6_method_1_code
def yX4_init : MethodName := ⟨RX4, "<init>", "()V"⟩
abbrev cX4_has : ByteArray := prog_6_method_2_code
def yX4_has : MethodName := ⟨RX4, "has", "(I)Z"⟩
abbrev cX4_sizeOf : ByteArray := prog_6_method_3_code
def yX4_sizeOf : MethodName := ⟨RX4, "sizeOf", "(I)I"⟩
abbrev cX4_blockOf : ByteArray := prog_6_method_4_code
def yX4_blockOf : MethodName := ⟨RX4, "blockOf", "(IJ)I"⟩
abbrev cX4_make : ByteArray := prog_6_method_5_code
def yX4_make : MethodName := ⟨RX4, "make", "(I)V"⟩
abbrev cX4_discard : ByteArray := prog_6_method_6_code
def yX4_discard : MethodName := ⟨RX4, "discard", "(I)V"⟩
abbrev cX4_release : ByteArray := prog_6_method_7_code
def yX4_release : MethodName := ⟨RX4, "release", "(I)V"⟩
abbrev cX4_needsBlock : ByteArray := prog_6_method_8_code
def yX4_needsBlock : MethodName := ⟨RX4, "needsBlock", "(II)Z"⟩
abbrev cX4_takeBlock : ByteArray := prog_6_method_9_code
def yX4_takeBlock : MethodName := ⟨RX4, "takeBlock", "(II)I"⟩
abbrev cX4_growOver : ByteArray := prog_6_method_10_code
def yX4_growOver : MethodName := ⟨RX4, "growOver", "(II)V"⟩
def RX5 : String := "ServerHouse$Keeper"
def TX5 : u_T := fun k => match k with
  | 0 => ("ServerHouse$Keeper", "turns", "I", false)
  | 1 => ("ServerHouse$Keeper", "deadTurns", "I", false)
  | _ => ("ServerHouse$Keeper", "unanswered", "Z", false)
def tyX5 : Nat → FieldType := fun k => match k with
  | 0 => .int
  | 1 => .int
  | _ => .boolean
abbrev wsX50 : List Cond := u_ws RX5 TX5 3
theorem nmX5 : ∀ a, a < 3 → ∀ b, b < 3 → a ≠ b → (TX5 a).2.1 ≠ (TX5 b).2.1 := by decide +kernel
theorem tyX5_ok : ∀ k, k < 3 → parseFieldDescriptor (TX5 k).2.2.1 = some (tyX5 k) := by decide +kernel
abbrev cX5_init : ByteArray := prog_7_method_1_code
def yX5_init : MethodName := ⟨RX5, "<init>", "()V"⟩
abbrev cX5_takeTurn : ByteArray := prog_7_method_2_code
def yX5_takeTurn : MethodName := ⟨RX5, "takeTurn", "(LServerHouse$Core;)Z"⟩
abbrev cX5_check : ByteArray := prog_7_method_3_code
def yX5_check : MethodName := ⟨RX5, "check", "(LServerHouse$Core;)Z"⟩
abbrev cX5_watchDead : ByteArray := prog_7_method_4_code
def yX5_watchDead : MethodName := ⟨RX5, "watchDead", "(LServerHouse$Core;)V"⟩
def RX6 : String := "ServerHouse$Message"
def TX6 : u_T := fun k => match k with
  | 0 => ("ServerHouse$Message", "numbers", "[I", true)
  | 1 => ("ServerHouse$Message", "sender", "I", false)
  | 2 => ("ServerHouse$Message", "kind", "I", false)
  | 3 => ("ServerHouse$Message", "a", "I", false)
  | 4 => ("ServerHouse$Message", "b", "I", false)
  | 5 => ("ServerHouse$Message", "c", "I", false)
  | 6 => ("ServerHouse$Message", "life", "I", false)
  | _ => ("ServerHouse$Message", "heldFor", "I", false)
def tyX6 : Nat → FieldType := fun k => match k with
  | 0 => .array .int
  | 1 => .int
  | 2 => .int
  | 3 => .int
  | 4 => .int
  | 5 => .int
  | 6 => .int
  | _ => .int
abbrev wsX60 : List Cond := u_ws RX6 TX6 8
theorem nmX6 : ∀ a, a < 8 → ∀ b, b < 8 → a ≠ b → (TX6 a).2.1 ≠ (TX6 b).2.1 := by decide +kernel
theorem tyX6_ok : ∀ k, k < 8 → parseFieldDescriptor (TX6 k).2.2.1 = some (tyX6 k) := by decide +kernel
abbrev cX6_init : ByteArray := prog_8_method_1_code
def yX6_init : MethodName := ⟨RX6, "<init>", "()V"⟩
abbrev cX6_write : ByteArray := prog_8_method_2_code
def yX6_write : MethodName := ⟨RX6, "write", "(IIII)V"⟩
abbrev cX6_setNumbers : ByteArray := prog_8_method_3_code
def yX6_setNumbers : MethodName := ⟨RX6, "setNumbers", "([II)V"⟩
abbrev cX6_copy : ByteArray := prog_8_method_4_code
def yX6_copy : MethodName := ⟨RX6, "copy", "(LServerHouse$Message;)V"⟩
def RX7 : String := "ServerHouse$OpenFiles"
def TX7 : u_T := fun k => match k with
  | 0 => ("ServerHouse$OpenFiles", "files", "[I", true)
  | _ => ("ServerHouse$OpenFiles", "places", "[I", true)
def tyX7 : Nat → FieldType := fun k => match k with
  | 0 => .array .int
  | _ => .array .int
abbrev wsX70 : List Cond := u_ws RX7 TX7 2
theorem nmX7 : ∀ a, a < 2 → ∀ b, b < 2 → a ≠ b → (TX7 a).2.1 ≠ (TX7 b).2.1 := by decide +kernel
theorem tyX7_ok : ∀ k, k < 2 → parseFieldDescriptor (TX7 k).2.2.1 = some (tyX7 k) := by decide +kernel
abbrev cX7_init : ByteArray := prog_9_method_1_code
def yX7_init : MethodName := ⟨RX7, "<init>", "()V"⟩
abbrev cX7_slot : ByteArray := prog_9_method_2_code
def yX7_slot : MethodName := ⟨RX7, "slot", "(II)I"⟩
abbrev cX7_fileAt : ByteArray := prog_9_method_3_code
def yX7_fileAt : MethodName := ⟨RX7, "fileAt", "(II)I"⟩
abbrev cX7_placeAt : ByteArray := prog_9_method_4_code
def yX7_placeAt : MethodName := ⟨RX7, "placeAt", "(II)I"⟩
abbrev cX7_setPlace : ByteArray := prog_9_method_5_code
def yX7_setPlace : MethodName := ⟨RX7, "setPlace", "(III)V"⟩
abbrev cX7_leastFree : ByteArray := prog_9_method_6_code
def yX7_leastFree : MethodName := ⟨RX7, "leastFree", "(I)I"⟩
abbrev cX7_howMany : ByteArray := prog_9_method_7_code
def yX7_howMany : MethodName := ⟨RX7, "howMany", "(I)I"⟩
abbrev cX7_anybodyHas : ByteArray := prog_9_method_8_code
def yX7_anybodyHas : MethodName := ⟨RX7, "anybodyHas", "(I)Z"⟩
abbrev cX7_set : ByteArray := prog_9_method_9_code
def yX7_set : MethodName := ⟨RX7, "set", "(IIII)V"⟩
abbrev cX7_closeAll : ByteArray := prog_9_method_10_code
def yX7_closeAll : MethodName := ⟨RX7, "closeAll", "(I)V"⟩
abbrev cX7_copyAll : ByteArray := prog_9_method_11_code
def yX7_copyAll : MethodName := ⟨RX7, "copyAll", "(II)V"⟩
def RX8 : String := "ServerHouse$ProcessServer"
def TX8 : u_T := fun k => match k with
  | 0 => ("ServerHouse$ProcessServer", "parents", "[I", true)
  | 1 => ("ServerHouse$ProcessServer", "codes", "[I", true)
  | 2 => ("ServerHouse$ProcessServer", "ended", "[Z", true)
  | 3 => ("ServerHouse$ProcessServer", "waits", "[Z", true)
  | 4 => ("ServerHouse$ProcessServer", "waiting", "Z", false)
  | 5 => ("ServerHouse$ProcessServer", "forking", "Z", false)
  | 6 => ("ServerHouse$ProcessServer", "subject", "I", false)
  | _ => ("ServerHouse$ProcessServer", "caller", "I", false)
def tyX8 : Nat → FieldType := fun k => match k with
  | 0 => .array .int
  | 1 => .array .int
  | 2 => .array .boolean
  | 3 => .array .boolean
  | 4 => .boolean
  | 5 => .boolean
  | 6 => .int
  | _ => .int
abbrev wsX80 : List Cond := u_ws RX8 TX8 8
theorem nmX8 : ∀ a, a < 8 → ∀ b, b < 8 → a ≠ b → (TX8 a).2.1 ≠ (TX8 b).2.1 := by decide +kernel
theorem tyX8_ok : ∀ k, k < 8 → parseFieldDescriptor (TX8 k).2.2.1 = some (tyX8 k) := by decide +kernel
abbrev cX8_init : ByteArray := prog_10_method_1_code
def yX8_init : MethodName := ⟨RX8, "<init>", "()V"⟩
abbrev cX8_hasEnded : ByteArray := prog_10_method_2_code
def yX8_hasEnded : MethodName := ⟨RX8, "hasEnded", "(I)Z"⟩
abbrev cX8_parentOf : ByteArray := prog_10_method_3_code
def yX8_parentOf : MethodName := ⟨RX8, "parentOf", "(I)I"⟩
abbrev cX8_codeOf : ByteArray := prog_10_method_4_code
def yX8_codeOf : MethodName := ⟨RX8, "codeOf", "(I)I"⟩
abbrev cX8_takeTurn : ByteArray := prog_10_method_5_code
def yX8_takeTurn : MethodName := ⟨RX8, "takeTurn", "(LServerHouse$Core;LServerHouse$Users;)V"⟩
abbrev cX8_fork : ByteArray := prog_10_method_6_code
def yX8_fork : MethodName := ⟨RX8, "fork", "(LServerHouse$Core;I)V"⟩
abbrev cX8_end : ByteArray := prog_10_method_7_code
def yX8_end : MethodName := ⟨RX8, "end", "(LServerHouse$Core;LServerHouse$Users;III)V"⟩
abbrev cX8_waitFor : ByteArray := prog_10_method_8_code
def yX8_waitFor : MethodName := ⟨RX8, "waitFor", "(ZII)V"⟩
abbrev cX8_await : ByteArray := prog_10_method_9_code
def yX8_await : MethodName := ⟨RX8, "await", "(LServerHouse$Core;I)V"⟩
abbrev cX8_collect : ByteArray := prog_10_method_10_code
def yX8_collect : MethodName := ⟨RX8, "collect", "(I)I"⟩
abbrev cX8_goOn : ByteArray := prog_10_method_11_code
def yX8_goOn : MethodName := ⟨RX8, "goOn", "(LServerHouse$Core;)V"⟩
abbrev cX8_leaveChildren : ByteArray := prog_10_method_12_code
def yX8_leaveChildren : MethodName := ⟨RX8, "leaveChildren", "(I)V"⟩
def RX9 : String := "ServerHouse$Users"
def TX9 : u_T := fun k => match k with
  | 0 => ("ServerHouse$Users", "calling", "[Z", true)
  | 1 => ("ServerHouse$Users", "latest", "[I", true)
  | _ => ("ServerHouse$Users", "answers", "[I", true)
def tyX9 : Nat → FieldType := fun k => match k with
  | 0 => .array .boolean
  | 1 => .array .int
  | _ => .array .int
abbrev wsX90 : List Cond := u_ws RX9 TX9 3
theorem nmX9 : ∀ a, a < 3 → ∀ b, b < 3 → a ≠ b → (TX9 a).2.1 ≠ (TX9 b).2.1 := by decide +kernel
theorem tyX9_ok : ∀ k, k < 3 → parseFieldDescriptor (TX9 k).2.2.1 = some (tyX9 k) := by decide +kernel
abbrev cX9_init : ByteArray := prog_11_method_1_code
def yX9_init : MethodName := ⟨RX9, "<init>", "()V"⟩
abbrev cX9_hasCall : ByteArray := prog_11_method_2_code
def yX9_hasCall : MethodName := ⟨RX9, "hasCall", "(I)Z"⟩
abbrev cX9_setCall : ByteArray := prog_11_method_3_code
def yX9_setCall : MethodName := ⟨RX9, "setCall", "(IZ)V"⟩
abbrev cX9_takeTurn : ByteArray := prog_11_method_4_code
def yX9_takeTurn : MethodName := ⟨RX9, "takeTurn", "(LServerHouse$Core;I)V"⟩
def RX10 : String := "ServerHouse"
def TX10 : u_T := fun k => match k with
  | 0 => ("ServerHouse", "core", "LServerHouse$Core;", true)
  | 1 => ("ServerHouse", "keeper", "LServerHouse$Keeper;", true)
  | 2 => ("ServerHouse", "driver", "LServerHouse$Driver;", true)
  | 3 => ("ServerHouse", "files", "LServerHouse$FileServer;", true)
  | 4 => ("ServerHouse", "processes", "LServerHouse$ProcessServer;", true)
  | 5 => ("ServerHouse", "users", "LServerHouse$Users;", true)
  | 6 => ("ServerHouse", "stepsDone", "I", false)
  | 7 => ("ServerHouse", "next", "I", false)
  | _ => ("ServerHouse", "crashes", "I", false)
def tyX10 : Nat → FieldType := fun k => match k with
  | 0 => .object "ServerHouse$Core"
  | 1 => .object "ServerHouse$Keeper"
  | 2 => .object "ServerHouse$Driver"
  | 3 => .object "ServerHouse$FileServer"
  | 4 => .object "ServerHouse$ProcessServer"
  | 5 => .object "ServerHouse$Users"
  | 6 => .int
  | 7 => .int
  | _ => .int
abbrev wsX100 : List Cond := u_ws RX10 TX10 9
theorem nmX10 : ∀ a, a < 9 → ∀ b, b < 9 → a ≠ b → (TX10 a).2.1 ≠ (TX10 b).2.1 := by decide +kernel
theorem tyX10_ok : ∀ k, k < 9 → parseFieldDescriptor (TX10 k).2.2.1 = some (tyX10 k) := by decide +kernel
abbrev cX10_init : ByteArray := prog_1_method_1_code
def yX10_init : MethodName := ⟨RX10, "<init>", "()V"⟩
abbrev cX10_call : ByteArray := prog_1_method_2_code
def yX10_call : MethodName := ⟨RX10, "call", "(IIII)I"⟩
abbrev cX10_steps : ByteArray := prog_1_method_3_code
def yX10_steps : MethodName := ⟨RX10, "steps", "(I)I"⟩
abbrev cX10_until : ByteArray := prog_1_method_4_code
def yX10_until : MethodName := ⟨RX10, "until", "(II)I"⟩
abbrev cX10_crash : ByteArray := prog_1_method_5_code
def yX10_crash : MethodName := ⟨RX10, "crash", "()Z"⟩
abbrev cX10_hang : ByteArray := prog_1_method_6_code
def yX10_hang : MethodName := ⟨RX10, "hang", "()Z"⟩
abbrev cX10_force : ByteArray := prog_1_method_7_code
def yX10_force : MethodName := ⟨RX10, "force", "(II)I"⟩
abbrev cX10_user : ByteArray := prog_1_method_8_code
def yX10_user : MethodName := ⟨RX10, "user", "(II)I"⟩
abbrev cX10_descriptor : ByteArray := prog_1_method_9_code
def yX10_descriptor : MethodName := ⟨RX10, "descriptor", "(III)I"⟩
abbrev cX10_file : ByteArray := prog_1_method_10_code
def yX10_file : MethodName := ⟨RX10, "file", "(II)I"⟩
abbrev cX10_disk : ByteArray := prog_1_method_11_code
def yX10_disk : MethodName := ⟨RX10, "disk", "(II)I"⟩
abbrev cX10_inbox : ByteArray := prog_1_method_12_code
def yX10_inbox : MethodName := ⟨RX10, "inbox", "(I)I"⟩
abbrev cX10_message : ByteArray := prog_1_method_13_code
def yX10_message : MethodName := ⟨RX10, "message", "(III)I"⟩
abbrev cX10_count : ByteArray := prog_1_method_14_code
def yX10_count : MethodName := ⟨RX10, "count", "(I)I"⟩
abbrev cX10_giveTurn : ByteArray := prog_1_method_15_code
def yX10_giveTurn : MethodName := ⟨RX10, "giveTurn", "()V"⟩
abbrev cX10_breakDriver : ByteArray := prog_1_method_16_code
def yX10_breakDriver : MethodName := ⟨RX10, "breakDriver", "()V"⟩
abbrev cX10_isPart : ByteArray := prog_1_method_17_code
def yX10_isPart : MethodName := ⟨RX10, "isPart", "(I)Z"⟩
abbrev cX10_isUser : ByteArray := prog_1_method_18_code
def yX10_isUser : MethodName := ⟨RX10, "isUser", "(I)Z"⟩
def RX11 : String := "ServerHouseModel"
def TX11 : u_T := fun k => match k with
  | 0 => ("ServerHouseModel", "thrown", "I", false)
  | 1 => ("ServerHouseModel", "inbox", "[I", true)
  | 2 => ("ServerHouseModel", "many", "[I", true)
  | 3 => ("ServerHouseModel", "draft", "[I", true)
  | 4 => ("ServerHouseModel", "kept", "[I", true)
  | 5 => ("ServerHouseModel", "keptFor", "[I", true)
  | 6 => ("ServerHouseModel", "forbidden", "I", false)
  | 7 => ("ServerHouseModel", "through", "I", false)
  | 8 => ("ServerHouseModel", "taken", "[I", true)
  | 9 => ("ServerHouseModel", "state", "[I", true)
  | 10 => ("ServerHouseModel", "calls", "[Z", true)
  | 11 => ("ServerHouseModel", "answer", "[I", true)
  | 12 => ("ServerHouseModel", "answers", "[I", true)
  | 13 => ("ServerHouseModel", "parent", "[I", true)
  | 14 => ("ServerHouseModel", "code", "[I", true)
  | 15 => ("ServerHouseModel", "waits", "[Z", true)
  | 16 => ("ServerHouseModel", "fileOf", "[I", true)
  | 17 => ("ServerHouseModel", "placeOf", "[I", true)
  | 18 => ("ServerHouseModel", "there", "[Z", true)
  | 19 => ("ServerHouseModel", "sizeOf", "[I", true)
  | 20 => ("ServerHouseModel", "blockOf", "[I", true)
  | 21 => ("ServerHouseModel", "used", "[Z", true)
  | 22 => ("ServerHouseModel", "disk", "[I", true)
  | 23 => ("ServerHouseModel", "driverLives", "Z", false)
  | 24 => ("ServerHouseModel", "hangs", "Z", false)
  | 25 => ("ServerHouseModel", "life", "I", false)
  | 26 => ("ServerHouseModel", "arm", "I", false)
  | 27 => ("ServerHouseModel", "job", "I", false)
  | 28 => ("ServerHouseModel", "jobBlock", "I", false)
  | 29 => ("ServerHouseModel", "jobNumbers", "[I", true)
  | 30 => ("ServerHouseModel", "crashes", "I", false)
  | 31 => ("ServerHouseModel", "turnsOfKeeper", "I", false)
  | 32 => ("ServerHouseModel", "deadTurns", "I", false)
  | 33 => ("ServerHouseModel", "isAsked", "Z", false)
  | 34 => ("ServerHouseModel", "toldLife", "I", false)
  | 35 => ("ServerHouseModel", "isWaiting", "Z", false)
  | 36 => ("ServerHouseModel", "stage", "I", false)
  | 37 => ("ServerHouseModel", "caller", "I", false)
  | 38 => ("ServerHouseModel", "slot", "I", false)
  | 39 => ("ServerHouseModel", "written", "I", false)
  | 40 => ("ServerHouseModel", "outKind", "I", false)
  | 41 => ("ServerHouseModel", "outBlock", "I", false)
  | 42 => ("ServerHouseModel", "outNumbers", "[I", true)
  | 43 => ("ServerHouseModel", "isHeld", "Z", false)
  | 44 => ("ServerHouseModel", "heldKind", "I", false)
  | 45 => ("ServerHouseModel", "heldBy", "I", false)
  | 46 => ("ServerHouseModel", "heldOf", "I", false)
  | 47 => ("ServerHouseModel", "steps", "I", false)
  | _ => ("ServerHouseModel", "next", "I", false)
def tyX11 : Nat → FieldType := fun k => match k with
  | 0 => .int
  | 1 => .array .int
  | 2 => .array .int
  | 3 => .array .int
  | 4 => .array .int
  | 5 => .array .int
  | 6 => .int
  | 7 => .int
  | 8 => .array .int
  | 9 => .array .int
  | 10 => .array .boolean
  | 11 => .array .int
  | 12 => .array .int
  | 13 => .array .int
  | 14 => .array .int
  | 15 => .array .boolean
  | 16 => .array .int
  | 17 => .array .int
  | 18 => .array .boolean
  | 19 => .array .int
  | 20 => .array .int
  | 21 => .array .boolean
  | 22 => .array .int
  | 23 => .boolean
  | 24 => .boolean
  | 25 => .int
  | 26 => .int
  | 27 => .int
  | 28 => .int
  | 29 => .array .int
  | 30 => .int
  | 31 => .int
  | 32 => .int
  | 33 => .boolean
  | 34 => .int
  | 35 => .boolean
  | 36 => .int
  | 37 => .int
  | 38 => .int
  | 39 => .int
  | 40 => .int
  | 41 => .int
  | 42 => .array .int
  | 43 => .boolean
  | 44 => .int
  | 45 => .int
  | 46 => .int
  | 47 => .int
  | _ => .int
abbrev wsX110 : List Cond := u_ws RX11 TX11 49
theorem nmX11 : ∀ a, a < 49 → ∀ b, b < 49 → a ≠ b → (TX11 a).2.1 ≠ (TX11 b).2.1 := by decide +kernel
theorem tyX11_ok : ∀ k, k < 49 → parseFieldDescriptor (TX11 k).2.2.1 = some (tyX11 k) := by decide +kernel
abbrev cX11_thrown : ByteArray := prog_13_method_1_code
def yX11_thrown : MethodName := ⟨RX11, "thrown", "()I"⟩
abbrev cX11_drafts : ByteArray := prog_13_method_2_code
def yX11_drafts : MethodName := ⟨RX11, "drafts", "(III)V"⟩
abbrev cX11_isUser : ByteArray := prog_13_method_3_code
def yX11_isUser : MethodName := ⟨RX11, "isUser", "(I)Z"⟩
abbrev cX11_isAllowed : ByteArray := prog_13_method_4_code
def yX11_isAllowed : MethodName := ⟨RX11, "isAllowed", "(II)Z"⟩
abbrev cX11_lives : ByteArray := prog_13_method_5_code
def yX11_lives : MethodName := ⟨RX11, "lives", "(I)Z"⟩
abbrev cX11_send : ByteArray := prog_13_method_6_code
def yX11_send : MethodName := ⟨RX11, "send", "(IIZ)I"⟩
abbrev cX11_sends : ByteArray := prog_13_method_7_code
def yX11_sends : MethodName := ⟨RX11, "sends", "(II)V"⟩
abbrev cX11_sendsAgain : ByteArray := prog_13_method_8_code
def yX11_sendsAgain : MethodName := ⟨RX11, "sendsAgain", "(I)Z"⟩
abbrev cX11_takeOut : ByteArray := prog_13_method_9_code
def yX11_takeOut : MethodName := ⟨RX11, "takeOut", "(II)V"⟩
abbrev cX11_drop : ByteArray := prog_13_method_10_code
def yX11_drop : MethodName := ⟨RX11, "drop", "(II)V"⟩
abbrev cX11_field : ByteArray := prog_13_method_11_code
def yX11_field : MethodName := ⟨RX11, "field", "(III)I"⟩
abbrev cX11_init : ByteArray := prog_13_method_12_code
def yX11_init : MethodName := ⟨RX11, "<init>", "()V"⟩
abbrev cX11_crashesNow : ByteArray := prog_13_method_13_code
def yX11_crashesNow : MethodName := ⟨RX11, "crashesNow", "()V"⟩
abbrev cX11_keeper : ByteArray := prog_13_method_14_code
def yX11_keeper : MethodName := ⟨RX11, "keeper", "()V"⟩
abbrev cX11_starts : ByteArray := prog_13_method_15_code
def yX11_starts : MethodName := ⟨RX11, "starts", "()V"⟩
abbrev cX11_driver : ByteArray := prog_13_method_16_code
def yX11_driver : MethodName := ⟨RX11, "driver", "()V"⟩
abbrev cX11_works : ByteArray := prog_13_method_17_code
def yX11_works : MethodName := ⟨RX11, "works", "()V"⟩
abbrev cX11_files : ByteArray := prog_13_method_18_code
def yX11_files : MethodName := ⟨RX11, "files", "()V"⟩
abbrev cX11_asksDriver : ByteArray := prog_13_method_19_code
def yX11_asksDriver : MethodName := ⟨RX11, "asksDriver", "()V"⟩
abbrev cX11_tells : ByteArray := prog_13_method_20_code
def yX11_tells : MethodName := ⟨RX11, "tells", "(III)V"⟩
abbrev cX11_copies : ByteArray := prog_13_method_21_code
def yX11_copies : MethodName := ⟨RX11, "copies", "(II)V"⟩
abbrev cX11_closesAll : ByteArray := prog_13_method_22_code
def yX11_closesAll : MethodName := ⟨RX11, "closesAll", "(I)V"⟩
abbrev cX11_begins : ByteArray := prog_13_method_23_code
def yX11_begins : MethodName := ⟨RX11, "begins", "(IIII)V"⟩
abbrev cX11_opens : ByteArray := prog_13_method_24_code
def yX11_opens : MethodName := ⟨RX11, "opens", "(II)I"⟩
abbrev cX11_filesThere : ByteArray := prog_13_method_25_code
def yX11_filesThere : MethodName := ⟨RX11, "filesThere", "()I"⟩
abbrev cX11_removes : ByteArray := prog_13_method_26_code
def yX11_removes : MethodName := ⟨RX11, "removes", "(I)I"⟩
abbrev cX11_reads : ByteArray := prog_13_method_27_code
def yX11_reads : MethodName := ⟨RX11, "reads", "(III)V"⟩
abbrev cX11_writes : ByteArray := prog_13_method_28_code
def yX11_writes : MethodName := ⟨RX11, "writes", "(IIII)V"⟩
abbrev cX11_goesOn : ByteArray := prog_13_method_29_code
def yX11_goesOn : MethodName := ⟨RX11, "goesOn", "()V"⟩
abbrev cX11_processes : ByteArray := prog_13_method_30_code
def yX11_processes : MethodName := ⟨RX11, "processes", "()V"⟩
abbrev cX11_forks : ByteArray := prog_13_method_31_code
def yX11_forks : MethodName := ⟨RX11, "forks", "(I)V"⟩
abbrev cX11_holds : ByteArray := prog_13_method_32_code
def yX11_holds : MethodName := ⟨RX11, "holds", "(III)V"⟩
abbrev cX11_ends : ByteArray := prog_13_method_33_code
def yX11_ends : MethodName := ⟨RX11, "ends", "(IIII)V"⟩
abbrev cX11_done : ByteArray := prog_13_method_34_code
def yX11_done : MethodName := ⟨RX11, "done", "()V"⟩
abbrev cX11_freed : ByteArray := prog_13_method_35_code
def yX11_freed : MethodName := ⟨RX11, "freed", "(I)I"⟩
abbrev cX11_waitsFor : ByteArray := prog_13_method_36_code
def yX11_waitsFor : MethodName := ⟨RX11, "waitsFor", "(I)V"⟩
abbrev cX11_ofUser : ByteArray := prog_13_method_37_code
def yX11_ofUser : MethodName := ⟨RX11, "ofUser", "(I)V"⟩
abbrev cX11_turn : ByteArray := prog_13_method_38_code
def yX11_turn : MethodName := ⟨RX11, "turn", "()V"⟩
abbrev cX11_steps : ByteArray := prog_13_method_39_code
def yX11_steps : MethodName := ⟨RX11, "steps", "(I)I"⟩
abbrev cX11_until : ByteArray := prog_13_method_40_code
def yX11_until : MethodName := ⟨RX11, "until", "(II)I"⟩
abbrev cX11_call : ByteArray := prog_13_method_41_code
def yX11_call : MethodName := ⟨RX11, "call", "(IIII)I"⟩
abbrev cX11_crash : ByteArray := prog_13_method_42_code
def yX11_crash : MethodName := ⟨RX11, "crash", "()Z"⟩
abbrev cX11_hang : ByteArray := prog_13_method_43_code
def yX11_hang : MethodName := ⟨RX11, "hang", "()Z"⟩
abbrev cX11_isPart : ByteArray := prog_13_method_44_code
def yX11_isPart : MethodName := ⟨RX11, "isPart", "(I)Z"⟩
abbrev cX11_force : ByteArray := prog_13_method_45_code
def yX11_force : MethodName := ⟨RX11, "force", "(II)I"⟩
abbrev cX11_user : ByteArray := prog_13_method_46_code
def yX11_user : MethodName := ⟨RX11, "user", "(II)I"⟩
abbrev cX11_descriptor : ByteArray := prog_13_method_47_code
def yX11_descriptor : MethodName := ⟨RX11, "descriptor", "(III)I"⟩
abbrev cX11_file : ByteArray := prog_13_method_48_code
def yX11_file : MethodName := ⟨RX11, "file", "(II)I"⟩
abbrev cX11_disk : ByteArray := prog_13_method_49_code
def yX11_disk : MethodName := ⟨RX11, "disk", "(II)I"⟩
abbrev cX11_inbox : ByteArray := prog_13_method_50_code
def yX11_inbox : MethodName := ⟨RX11, "inbox", "(I)I"⟩
abbrev cX11_message : ByteArray := prog_13_method_51_code
def yX11_message : MethodName := ⟨RX11, "message", "(III)I"⟩
abbrev cX11_count : ByteArray := prog_13_method_52_code
def yX11_count : MethodName := ⟨RX11, "count", "(I)I"⟩
def RJ9 : String := "java/lang/Math"
abbrev cJ9_floorMod_7cf53 : ByteArray := prog_15_method_50_code
def yJ9_floorMod_7cf53 : MethodName := ⟨RJ9, "floorMod", "(II)I"⟩
def RL : String := "ServerHouseLaw"
abbrev cL_user : ByteArray := method_3_code
def yL_user : MethodName := ⟨RL, "user", "(LServerHouse;II[J)I"⟩
abbrev cL_disk : ByteArray := method_4_code
def yL_disk : MethodName := ⟨RL, "disk", "(LServerHouse;II[J)I"⟩
abbrev cL_law : ByteArray := code
def yL_law : MethodName := ⟨RL, "law", "([I)Z"⟩
abbrev vwCl : List vw_C := [(RX0, TX0, 2), (RX1, TX1, 7), (RX2, TX2, 6), (RX3, TX3, 11), (RX4, TX4, 6), (RX5, TX5, 3), (RX6, TX6, 8), (RX7, TX7, 2), (RX8, TX8, 8), (RX9, TX9, 3), (RX10, TX10, 9), (RX11, TX11, 49)]
/-- the words of the tables that keep -/
def gw : List Cond := lw_tbl.filter goodWord
theorem gm_t {w : Cond} (h : w ∈ tables_1) (g : goodWord w = true) : w ∈ gw := List.mem_filter.mpr ⟨List.mem_append_right _ h, g⟩
theorem tm1 {i : Nat} {w : Cond} (h : tables_1_1[i]? = some w) : w ∈ tables_1 := by
  have h := List.mem_of_getElem? h
  exact List.mem_append_left _ h
theorem gm1 {i : Nat} {w : Cond} (h : tables_1_1[i]? = some w) (g : goodWord w = true) : w ∈ gw := gm_t (tm1 h) g
theorem tm2 {i : Nat} {w : Cond} (h : tables_1_2[i]? = some w) : w ∈ tables_1 := by
  have h := List.mem_of_getElem? h
  exact List.mem_append_right _ (List.mem_append_left _ h)
theorem gm2 {i : Nat} {w : Cond} (h : tables_1_2[i]? = some w) (g : goodWord w = true) : w ∈ gw := gm_t (tm2 h) g
theorem tm3 {i : Nat} {w : Cond} (h : tables_1_3[i]? = some w) : w ∈ tables_1 := by
  have h := List.mem_of_getElem? h
  exact List.mem_append_right _ (List.mem_append_right _ (List.mem_append_left _ h))
theorem gm3 {i : Nat} {w : Cond} (h : tables_1_3[i]? = some w) (g : goodWord w = true) : w ∈ gw := gm_t (tm3 h) g
theorem tm4 {i : Nat} {w : Cond} (h : tables_1_4[i]? = some w) : w ∈ tables_1 := by
  have h := List.mem_of_getElem? h
  exact List.mem_append_right _ (List.mem_append_right _ (List.mem_append_right _ (List.mem_append_left _ h)))
theorem gm4 {i : Nat} {w : Cond} (h : tables_1_4[i]? = some w) (g : goodWord w = true) : w ∈ gw := gm_t (tm4 h) g
theorem tm5 {i : Nat} {w : Cond} (h : tables_1_5[i]? = some w) : w ∈ tables_1 := by
  have h := List.mem_of_getElem? h
  exact List.mem_append_right _ (List.mem_append_right _ (List.mem_append_right _ (List.mem_append_right _ (h))))
theorem gm5 {i : Nat} {w : Cond} (h : tables_1_5[i]? = some w) (g : goodWord w = true) : w ∈ gw := gm_t (tm5 h) g
theorem gp1 {i : Nat} {q : MethodName × Nat} (h : lw_privs_1[i]? = some q) (g : goodWord (Cond.selects q.1.cls q.1 q.1) = true) : Cond.selects q.1.cls q.1 q.1 ∈ gw := by
  have h := List.mem_of_getElem? h
  exact List.mem_filter.mpr ⟨List.mem_append_left _ (List.mem_map.mpr ⟨q, List.mem_append_left _ h, rfl⟩), g⟩
theorem gp2 {i : Nat} {q : MethodName × Nat} (h : lw_privs_2[i]? = some q) (g : goodWord (Cond.selects q.1.cls q.1 q.1) = true) : Cond.selects q.1.cls q.1 q.1 ∈ gw := by
  have h := List.mem_of_getElem? h
  exact List.mem_filter.mpr ⟨List.mem_append_left _ (List.mem_map.mpr ⟨q, List.mem_append_right _ (List.mem_append_left _ h), rfl⟩), g⟩
theorem gp3 {i : Nat} {q : MethodName × Nat} (h : lw_privs_3[i]? = some q) (g : goodWord (Cond.selects q.1.cls q.1 q.1) = true) : Cond.selects q.1.cls q.1 q.1 ∈ gw := by
  have h := List.mem_of_getElem? h
  exact List.mem_filter.mpr ⟨List.mem_append_left _ (List.mem_map.mpr ⟨q, List.mem_append_right _ (List.mem_append_right _ (List.mem_append_left _ h)), rfl⟩), g⟩
theorem gp4 {i : Nat} {q : MethodName × Nat} (h : lw_privs_4[i]? = some q) (g : goodWord (Cond.selects q.1.cls q.1 q.1) = true) : Cond.selects q.1.cls q.1 q.1 ∈ gw := by
  have h := List.mem_of_getElem? h
  exact List.mem_filter.mpr ⟨List.mem_append_left _ (List.mem_map.mpr ⟨q, List.mem_append_right _ (List.mem_append_right _ (List.mem_append_right _ (h))), rfl⟩), g⟩
theorem in_L : Cond.initialized RL ∈ gw := gm1 (i := 0) rfl rfl
theorem in_X10 : Cond.initialized RX10 ∈ gw := gm1 (i := 1) rfl rfl
theorem in_X1 : Cond.initialized RX1 ∈ gw := gm1 (i := 2) rfl rfl
theorem in_X6 : Cond.initialized RX6 ∈ gw := gm1 (i := 3) rfl rfl
theorem in_X0 : Cond.initialized RX0 ∈ gw := gm1 (i := 4) rfl rfl
theorem in_X5 : Cond.initialized RX5 ∈ gw := gm1 (i := 5) rfl rfl
theorem in_X2 : Cond.initialized RX2 ∈ gw := gm1 (i := 6) rfl rfl
theorem in_X3 : Cond.initialized RX3 ∈ gw := gm1 (i := 7) rfl rfl
theorem in_X4 : Cond.initialized RX4 ∈ gw := gm1 (i := 8) rfl rfl
theorem in_X7 : Cond.initialized RX7 ∈ gw := gm1 (i := 9) rfl rfl
theorem in_X8 : Cond.initialized RX8 ∈ gw := gm1 (i := 10) rfl rfl
theorem in_X9 : Cond.initialized RX9 ∈ gw := gm1 (i := 11) rfl rfl
theorem in_X11 : Cond.initialized RX11 ∈ gw := gm1 (i := 12) rfl rfl
theorem in_J9 : Cond.initialized RJ9 ∈ gw := gm1 (i := 13) rfl rfl
theorem cl_L_8 : Cond.classLink RL 8 RX10 ∈ gw := gm1 (i := 18) rfl rfl
theorem is_X10 : Cond.instantiable RX10 9 ∈ gw := gm1 (i := 19) rfl rfl
theorem ml_L_18 : Cond.methodLink RL 18 yX10_init ∈ gw := gm1 (i := 20) rfl rfl
theorem im_X10_init : Cond.instanceMethod yX10_init ∈ gw := gm1 (i := 21) rfl rfl
theorem cd_X10_init : Cond.code yX10_init cX10_init 1 (none : Option FieldType) ∈ gw := gm1 (i := 22) rfl rfl
theorem ml_X10_3 : Cond.methodLink RX10 3 objectInit ∈ gw := gm1 (i := 23) rfl rfl
theorem im_obj : Cond.instanceMethod objectInit ∈ gw := gm1 (i := 24) rfl rfl
theorem cd_obj : Cond.code objectInit ⟨#[0xb1]⟩ 1 none ∈ gw := gm1 (i := 25) rfl rfl
theorem cl_X10_9 : Cond.classLink RX10 9 RX1 ∈ gw := gm1 (i := 26) rfl rfl
theorem is_X1 : Cond.instantiable RX1 7 ∈ gw := gm1 (i := 27) rfl rfl
theorem ml_X10_11 : Cond.methodLink RX10 11 yX1_init ∈ gw := gm1 (i := 28) rfl rfl
theorem im_X1_init : Cond.instanceMethod yX1_init ∈ gw := gm1 (i := 29) rfl rfl
theorem cd_X1_init : Cond.code yX1_init cX1_init 2 (none : Option FieldType) ∈ gw := gm1 (i := 30) rfl rfl
theorem ml_X1_3 : Cond.methodLink RX1 3 objectInit ∈ gw := gm1 (i := 31) rfl rfl
theorem cl_X1_9 : Cond.classLink RX1 9 RX0 ∈ gw := gm1 (i := 32) rfl rfl
theorem ao_X0 : Cond.arrayOver (.object RX0) ∈ tables_1 := tm1 (i := 33) rfl
theorem cl_X1_21 : Cond.classLink RX1 21 RX6 ∈ gw := gm1 (i := 34) rfl rfl
theorem ao_X6 : Cond.arrayOver (.object RX6) ∈ tables_1 := tm1 (i := 35) rfl
theorem is_X6 : Cond.instantiable RX6 8 ∈ gw := gm1 (i := 36) rfl rfl
theorem nl_X1_27 : Cond.methodLinkNest RX1 27 yX6_init "ServerHouse" ∈ tables_1 := tm1 (i := 37) rfl
theorem im_X6_init : Cond.instanceMethod yX6_init ∈ gw := gm1 (i := 38) rfl rfl
theorem cd_X6_init : Cond.code yX6_init cX6_init 1 (none : Option FieldType) ∈ gw := gm1 (i := 39) rfl rfl
theorem ml_X6_3 : Cond.methodLink RX6 3 objectInit ∈ gw := gm1 (i := 40) rfl rfl
theorem ac_boolean : Cond.arrayClass .boolean ∈ gw := gm1 (i := 91) rfl rfl
theorem ac_int : Cond.arrayClass .int ∈ gw := gm1 (i := 92) rfl rfl
theorem is_X0 : Cond.instantiable RX0 2 ∈ gw := gm1 (i := 93) rfl rfl
theorem ml_X1_36 : Cond.methodLink RX1 36 yX0_init ∈ gw := gm1 (i := 94) rfl rfl
theorem im_X0_init : Cond.instanceMethod yX0_init ∈ gw := gm1 (i := 95) rfl rfl
theorem cd_X0_init : Cond.code yX0_init cX0_init 2 (none : Option FieldType) ∈ gw := gm1 (i := 96) rfl rfl
theorem ml_X0_3 : Cond.methodLink RX0 3 objectInit ∈ gw := gm1 (i := 97) rfl rfl
theorem cl_X0_9 : Cond.classLink RX0 9 RX6 ∈ gw := gm1 (i := 98) rfl rfl
theorem nl_X0_17 : Cond.methodLinkNest RX0 17 yX6_init "ServerHouse" ∈ tables_1 := tm1 (i := 99) rfl
theorem cl_X10_16 : Cond.classLink RX10 16 RX5 ∈ gw := gm1 (i := 144) rfl rfl
theorem is_X5 : Cond.instantiable RX5 3 ∈ gw := gm1 (i := 145) rfl rfl
theorem nl_X10_18 : Cond.methodLinkNest RX10 18 yX5_init "ServerHouse" ∈ tables_1 := tm1 (i := 146) rfl
theorem im_X5_init : Cond.instanceMethod yX5_init ∈ gw := gm1 (i := 147) rfl rfl
theorem cd_X5_init : Cond.code yX5_init cX5_init 1 (none : Option FieldType) ∈ gw := gm1 (i := 148) rfl rfl
theorem ml_X5_3 : Cond.methodLink RX5 3 objectInit ∈ gw := gm1 (i := 149) rfl rfl
theorem cl_X10_23 : Cond.classLink RX10 23 RX2 ∈ gw := gm1 (i := 162) rfl rfl
theorem is_X2 : Cond.instantiable RX2 6 ∈ gw := gm1 (i := 163) rfl rfl
theorem nl_X10_25 : Cond.methodLinkNest RX10 25 yX2_init "ServerHouse" ∈ tables_1 := tm1 (i := 164) rfl
theorem im_X2_init : Cond.instanceMethod yX2_init ∈ gw := gm1 (i := 165) rfl rfl
theorem cd_X2_init : Cond.code yX2_init cX2_init 1 (none : Option FieldType) ∈ gw := gm1 (i := 166) rfl rfl
theorem ml_X2_3 : Cond.methodLink RX2 3 objectInit ∈ gw := gm1 (i := 167) rfl rfl
theorem cl_X10_30 : Cond.classLink RX10 30 RX3 ∈ gw := gm1 (i := 191) rfl rfl
theorem is_X3 : Cond.instantiable RX3 11 ∈ gw := gm1 (i := 192) rfl rfl
theorem nl_X10_32 : Cond.methodLinkNest RX10 32 yX3_init "ServerHouse" ∈ tables_1 := tm1 (i := 193) rfl
theorem im_X3_init : Cond.instanceMethod yX3_init ∈ gw := gm1 (i := 194) rfl rfl
theorem cd_X3_init : Cond.code yX3_init cX3_init 1 (none : Option FieldType) ∈ gw := gm1 (i := 195) rfl rfl
theorem ml_X3_3 : Cond.methodLink RX3 3 objectInit ∈ gw := gm1 (i := 196) rfl rfl
theorem cl_X3_9 : Cond.classLink RX3 9 RX4 ∈ gw := gm1 (i := 197) rfl rfl
theorem is_X4 : Cond.instantiable RX4 6 ∈ gw := gm1 (i := 198) rfl rfl
theorem nl_X3_11 : Cond.methodLinkNest RX3 11 yX4_init "ServerHouse" ∈ tables_1 := tm1 (i := 199) rfl
theorem im_X4_init : Cond.instanceMethod yX4_init ∈ gw := gm1 (i := 200) rfl rfl
theorem cd_X4_init : Cond.code yX4_init cX4_init 1 (none : Option FieldType) ∈ gw := gm1 (i := 201) rfl rfl
theorem ml_X4_3 : Cond.methodLink RX4 3 objectInit ∈ gw := gm1 (i := 202) rfl rfl
theorem cl_X3_18 : Cond.classLink RX3 18 RX7 ∈ gw := gm1 (i := 226) rfl rfl
theorem is_X7 : Cond.instantiable RX7 2 ∈ gw := gm1 (i := 227) rfl rfl
theorem ml_X3_20 : Cond.methodLink RX3 20 yX7_init ∈ gw := gm1 (i := 228) rfl rfl
theorem im_X7_init : Cond.instanceMethod yX7_init ∈ gw := gm1 (i := 229) rfl rfl
theorem cd_X7_init : Cond.code yX7_init cX7_init 2 (none : Option FieldType) ∈ gw := gm1 (i := 230) rfl rfl
theorem ml_X7_3 : Cond.methodLink RX7 3 objectInit ∈ gw := gm1 (i := 231) rfl rfl
theorem cl_X10_37 : Cond.classLink RX10 37 RX8 ∈ gw := gm2 (i := 36) rfl rfl
theorem is_X8 : Cond.instantiable RX8 8 ∈ gw := gm2 (i := 37) rfl rfl
theorem ml_X10_39 : Cond.methodLink RX10 39 yX8_init ∈ gw := gm2 (i := 38) rfl rfl
theorem im_X8_init : Cond.instanceMethod yX8_init ∈ gw := gm2 (i := 39) rfl rfl
theorem cd_X8_init : Cond.code yX8_init cX8_init 2 (none : Option FieldType) ∈ gw := gm2 (i := 40) rfl rfl
theorem ml_X8_3 : Cond.methodLink RX8 3 objectInit ∈ gw := gm2 (i := 41) rfl rfl
theorem cl_X10_44 : Cond.classLink RX10 44 RX9 ∈ gw := gm2 (i := 68) rfl rfl
theorem is_X9 : Cond.instantiable RX9 3 ∈ gw := gm2 (i := 69) rfl rfl
theorem nl_X10_46 : Cond.methodLinkNest RX10 46 yX9_init "ServerHouse" ∈ tables_1 := tm2 (i := 70) rfl
theorem im_X9_init : Cond.instanceMethod yX9_init ∈ gw := gm2 (i := 71) rfl rfl
theorem cd_X9_init : Cond.code yX9_init cX9_init 1 (none : Option FieldType) ∈ gw := gm2 (i := 72) rfl rfl
theorem ml_X9_3 : Cond.methodLink RX9 3 objectInit ∈ gw := gm2 (i := 73) rfl rfl
theorem ml_L_22 : Cond.methodLink RL 22 yX10_call ∈ gw := gm2 (i := 114) rfl rfl
theorem im_X10_call : Cond.instanceMethod yX10_call ∈ gw := gm2 (i := 115) rfl rfl
theorem sl_X10_call : Cond.selects RX10 yX10_call yX10_call ∈ gw := gm2 (i := 116) rfl rfl
theorem cd_X10_call : Cond.code yX10_call cX10_call 5 (some FieldType.int) ∈ gw := gm2 (i := 117) rfl rfl
theorem ml_X10_61 : Cond.methodLink RX10 61 yX10_isUser ∈ gw := gm2 (i := 118) rfl rfl
theorem sm_X10_isUser : Cond.static yX10_isUser ∈ gw := gm2 (i := 119) rfl rfl
theorem cd_X10_isUser : Cond.code yX10_isUser cX10_isUser 1 (some FieldType.boolean) ∈ gw := gm2 (i := 120) rfl rfl
theorem ml_X10_69 : Cond.methodLink RX10 69 yX9_hasCall ∈ gw := gm2 (i := 121) rfl rfl
theorem im_X9_hasCall : Cond.instanceMethod yX9_hasCall ∈ gw := gm2 (i := 122) rfl rfl
theorem sl_X9_hasCall : Cond.selects RX9 yX9_hasCall yX9_hasCall ∈ gw := gm2 (i := 123) rfl rfl
theorem cd_X9_hasCall : Cond.code yX9_hasCall cX9_hasCall 2 (some FieldType.boolean) ∈ gw := gm2 (i := 124) rfl rfl
theorem nl_X9_22 : Cond.methodLinkNest RX9 22 yX10_isUser "ServerHouse" ∈ tables_1 := tm2 (i := 125) rfl
theorem ml_X10_72 : Cond.methodLink RX10 72 yX1_postLoose ∈ gw := gm2 (i := 126) rfl rfl
theorem im_X1_postLoose : Cond.instanceMethod yX1_postLoose ∈ gw := gm2 (i := 127) rfl rfl
theorem sl_X1_postLoose : Cond.selects RX1 yX1_postLoose yX1_postLoose ∈ gw := gm2 (i := 128) rfl rfl
theorem cd_X1_postLoose : Cond.code yX1_postLoose cX1_postLoose 6 (some FieldType.int) ∈ gw := gm2 (i := 129) rfl rfl
theorem ml_X1_41 : Cond.methodLink RX1 41 yX6_write ∈ gw := gm2 (i := 130) rfl rfl
theorem im_X6_write : Cond.instanceMethod yX6_write ∈ gw := gm2 (i := 131) rfl rfl
theorem sl_X6_write : Cond.selects RX6 yX6_write yX6_write ∈ gw := gm2 (i := 132) rfl rfl
theorem cd_X6_write : Cond.code yX6_write cX6_write 5 (none : Option FieldType) ∈ gw := gm2 (i := 133) rfl rfl
theorem ml_X1_49 : Cond.methodLink RX1 49 yX1_post ∈ gw := gm2 (i := 134) rfl rfl
theorem im_X1_post : Cond.instanceMethod yX1_post ∈ gw := gm2 (i := 135) rfl rfl
theorem sl_X1_post : Cond.selects RX1 yX1_post yX1_post ∈ gw := gm2 (i := 136) rfl rfl
theorem cd_X1_post : Cond.code yX1_post cX1_post 4 (some FieldType.int) ∈ gw := gm2 (i := 137) rfl rfl
theorem nl_X1_37 : Cond.methodLinkNest RX1 37 yX10_isPart "ServerHouse" ∈ tables_1 := tm2 (i := 138) rfl
theorem sm_X10_isPart : Cond.static yX10_isPart ∈ gw := gm2 (i := 139) rfl rfl
theorem cd_X10_isPart : Cond.code yX10_isPart cX10_isPart 1 (some FieldType.boolean) ∈ gw := gm2 (i := 140) rfl rfl
theorem nf_X1_59 : Cond.fieldLinkNest RX1 59 "ServerHouse" "ALLOWED" "[I" "ServerHouse" ∈ tables_1 := tm2 (i := 141) rfl
theorem ls_ALLOWED : Cond.laysStatic "ServerHouse" "ALLOWED" "[I" ∈ tables_1 := tm2 (i := 142) rfl
theorem ml_X1_69 : Cond.methodLink RX1 69 yX0_grow ∈ gw := gm2 (i := 143) rfl rfl
theorem im_X0_grow : Cond.instanceMethod yX0_grow ∈ gw := gm2 (i := 144) rfl rfl
theorem sl_X0_grow : Cond.selects RX0 yX0_grow yX0_grow ∈ gw := gm2 (i := 145) rfl rfl
theorem cd_X0_grow : Cond.code yX0_grow cX0_grow 1 (some (FieldType.object "ServerHouse$Message")) ∈ gw := gm2 (i := 146) rfl rfl
theorem ml_X1_73 : Cond.methodLink RX1 73 yX6_copy ∈ gw := gm2 (i := 147) rfl rfl
theorem im_X6_copy : Cond.instanceMethod yX6_copy ∈ gw := gm2 (i := 148) rfl rfl
theorem sl_X6_copy : Cond.selects RX6 yX6_copy yX6_copy ∈ gw := gm2 (i := 149) rfl rfl
theorem cd_X6_copy : Cond.code yX6_copy cX6_copy 3 (none : Option FieldType) ∈ gw := gm2 (i := 150) rfl rfl
theorem ml_X10_76 : Cond.methodLink RX10 76 yX9_setCall ∈ gw := gm2 (i := 151) rfl rfl
theorem im_X9_setCall : Cond.instanceMethod yX9_setCall ∈ gw := gm2 (i := 152) rfl rfl
theorem sl_X9_setCall : Cond.selects RX9 yX9_setCall yX9_setCall ∈ gw := gm2 (i := 153) rfl rfl
theorem cd_X9_setCall : Cond.code yX9_setCall cX9_setCall 3 (none : Option FieldType) ∈ gw := gm2 (i := 154) rfl rfl
theorem ml_L_27 : Cond.methodLink RL 27 yX10_steps ∈ gw := gm2 (i := 155) rfl rfl
theorem im_X10_steps : Cond.instanceMethod yX10_steps ∈ gw := gm2 (i := 156) rfl rfl
theorem sl_X10_steps : Cond.selects RX10 yX10_steps yX10_steps ∈ gw := gm2 (i := 157) rfl rfl
theorem cd_X10_steps : Cond.code yX10_steps cX10_steps 3 (some FieldType.int) ∈ gw := gm2 (i := 158) rfl rfl
theorem ml_X10_80 : Cond.methodLink RX10 80 yX10_giveTurn ∈ gw := gm2 (i := 159) rfl rfl
theorem im_X10_giveTurn : Cond.instanceMethod yX10_giveTurn ∈ gw := gm2 (i := 161) rfl rfl
theorem cd_X10_giveTurn : Cond.code yX10_giveTurn cX10_giveTurn 2 (none : Option FieldType) ∈ gw := gm2 (i := 162) rfl rfl
theorem ml_X10_214 : Cond.methodLink RX10 214 yX1_sendHeld ∈ gw := gm2 (i := 163) rfl rfl
theorem im_X1_sendHeld : Cond.instanceMethod yX1_sendHeld ∈ gw := gm2 (i := 164) rfl rfl
theorem sl_X1_sendHeld : Cond.selects RX1 yX1_sendHeld yX1_sendHeld ∈ gw := gm2 (i := 165) rfl rfl
theorem cd_X1_sendHeld : Cond.code yX1_sendHeld cX1_sendHeld 4 (some FieldType.boolean) ∈ gw := gm2 (i := 166) rfl rfl
theorem ml_X10_217 : Cond.methodLink RX10 217 yX5_takeTurn ∈ gw := gm2 (i := 167) rfl rfl
theorem im_X5_takeTurn : Cond.instanceMethod yX5_takeTurn ∈ gw := gm2 (i := 168) rfl rfl
theorem sl_X5_takeTurn : Cond.selects RX5 yX5_takeTurn yX5_takeTurn ∈ gw := gm2 (i := 169) rfl rfl
theorem cd_X5_takeTurn : Cond.code yX5_takeTurn cX5_takeTurn 3 (some FieldType.boolean) ∈ gw := gm2 (i := 170) rfl rfl
theorem ml_X5_15 : Cond.methodLink RX5 15 yX5_watchDead ∈ gw := gm2 (i := 171) rfl rfl
theorem im_X5_watchDead : Cond.instanceMethod yX5_watchDead ∈ gw := gm2 (i := 173) rfl rfl
theorem cd_X5_watchDead : Cond.code yX5_watchDead cX5_watchDead 2 (none : Option FieldType) ∈ gw := gm2 (i := 174) rfl rfl
theorem ml_X5_55 : Cond.methodLink RX5 55 yX1_startDriver ∈ gw := gm2 (i := 175) rfl rfl
theorem im_X1_startDriver : Cond.instanceMethod yX1_startDriver ∈ gw := gm2 (i := 176) rfl rfl
theorem sl_X1_startDriver : Cond.selects RX1 yX1_startDriver yX1_startDriver ∈ gw := gm2 (i := 177) rfl rfl
theorem cd_X1_startDriver : Cond.code yX1_startDriver cX1_startDriver 1 (none : Option FieldType) ∈ gw := gm2 (i := 178) rfl rfl
theorem ml_X5_48 : Cond.methodLink RX5 48 yX1_send ∈ gw := gm2 (i := 179) rfl rfl
theorem im_X1_send : Cond.instanceMethod yX1_send ∈ gw := gm2 (i := 180) rfl rfl
theorem sl_X1_send : Cond.selects RX1 yX1_send yX1_send ∈ gw := gm2 (i := 181) rfl rfl
theorem cd_X1_send : Cond.code yX1_send cX1_send 7 (none : Option FieldType) ∈ gw := gm2 (i := 182) rfl rfl
theorem ml_X1_45 : Cond.methodLink RX1 45 yX1_draft ∈ gw := gm2 (i := 183) rfl rfl
theorem im_X1_draft : Cond.instanceMethod yX1_draft ∈ gw := gm2 (i := 184) rfl rfl
theorem sl_X1_draft : Cond.selects RX1 yX1_draft yX1_draft ∈ gw := gm2 (i := 185) rfl rfl
theorem cd_X1_draft : Cond.code yX1_draft cX1_draft 5 (some (FieldType.object "ServerHouse$Message")) ∈ gw := gm2 (i := 186) rfl rfl
theorem ml_X5_25 : Cond.methodLink RX5 25 yX0_take ∈ gw := gm2 (i := 187) rfl rfl
theorem im_X0_take : Cond.instanceMethod yX0_take ∈ gw := gm2 (i := 188) rfl rfl
theorem sl_X0_take : Cond.selects RX0 yX0_take yX0_take ∈ gw := gm2 (i := 189) rfl rfl
theorem cd_X0_take : Cond.code yX0_take cX0_take 4 (some (FieldType.object "ServerHouse$Message")) ∈ gw := gm2 (i := 190) rfl rfl
theorem ml_X5_44 : Cond.methodLink RX5 44 yX5_check ∈ gw := gm2 (i := 191) rfl rfl
theorem im_X5_check : Cond.instanceMethod yX5_check ∈ gw := gm2 (i := 193) rfl rfl
theorem cd_X5_check : Cond.code yX5_check cX5_check 2 (some FieldType.boolean) ∈ gw := gm2 (i := 194) rfl rfl
theorem ml_X10_83 : Cond.methodLink RX10 83 yX10_breakDriver ∈ gw := gm2 (i := 195) rfl rfl
theorem im_X10_breakDriver : Cond.instanceMethod yX10_breakDriver ∈ gw := gm2 (i := 197) rfl rfl
theorem cd_X10_breakDriver : Cond.code yX10_breakDriver cX10_breakDriver 1 (none : Option FieldType) ∈ gw := gm2 (i := 198) rfl rfl
theorem ml_X10_231 : Cond.methodLink RX10 231 yX1_end ∈ gw := gm2 (i := 199) rfl rfl
theorem im_X1_end : Cond.instanceMethod yX1_end ∈ gw := gm2 (i := 200) rfl rfl
theorem sl_X1_end : Cond.selects RX1 yX1_end yX1_end ∈ gw := gm2 (i := 201) rfl rfl
theorem cd_X1_end : Cond.code yX1_end cX1_end 2 (none : Option FieldType) ∈ gw := gm2 (i := 202) rfl rfl
theorem ml_X10_235 : Cond.methodLink RX10 235 yX2_loseAll ∈ gw := gm2 (i := 203) rfl rfl
theorem im_X2_loseAll : Cond.instanceMethod yX2_loseAll ∈ gw := gm2 (i := 204) rfl rfl
theorem sl_X2_loseAll : Cond.selects RX2 yX2_loseAll yX2_loseAll ∈ gw := gm2 (i := 205) rfl rfl
theorem cd_X2_loseAll : Cond.code yX2_loseAll cX2_loseAll 1 (none : Option FieldType) ∈ gw := gm2 (i := 206) rfl rfl
theorem ml_X10_221 : Cond.methodLink RX10 221 yX2_takeTurn ∈ gw := gm2 (i := 207) rfl rfl
theorem im_X2_takeTurn : Cond.instanceMethod yX2_takeTurn ∈ gw := gm2 (i := 208) rfl rfl
theorem sl_X2_takeTurn : Cond.selects RX2 yX2_takeTurn yX2_takeTurn ∈ gw := gm2 (i := 209) rfl rfl
theorem cd_X2_takeTurn : Cond.code yX2_takeTurn cX2_takeTurn 3 (none : Option FieldType) ∈ gw := gm2 (i := 210) rfl rfl
theorem ml_X2_32 : Cond.methodLink RX2 32 yX0_firstOf ∈ gw := gm2 (i := 211) rfl rfl
theorem im_X0_firstOf : Cond.instanceMethod yX0_firstOf ∈ gw := gm2 (i := 212) rfl rfl
theorem sl_X0_firstOf : Cond.selects RX0 yX0_firstOf yX0_firstOf ∈ gw := gm2 (i := 213) rfl rfl
theorem cd_X0_firstOf : Cond.code yX0_firstOf cX0_firstOf 3 (some FieldType.int) ∈ gw := gm2 (i := 214) rfl rfl
theorem ml_X2_38 : Cond.methodLink RX2 38 yX0_take ∈ gw := gm2 (i := 215) rfl rfl
theorem ml_X2_42 : Cond.methodLink RX2 42 yX1_send ∈ gw := gm2 (i := 216) rfl rfl
theorem ml_X2_46 : Cond.methodLink RX2 46 yX2_work ∈ gw := gm2 (i := 217) rfl rfl
theorem im_X2_work : Cond.instanceMethod yX2_work ∈ gw := gm2 (i := 219) rfl rfl
theorem cd_X2_work : Cond.code yX2_work cX2_work 4 (none : Option FieldType) ∈ gw := gm2 (i := 220) rfl rfl
theorem ml_X2_69 : Cond.methodLink RX2 69 yX1_draft ∈ gw := gm2 (i := 221) rfl rfl
theorem ml_X2_73 : Cond.methodLink RX2 73 yX6_setNumbers ∈ gw := gm2 (i := 222) rfl rfl
theorem im_X6_setNumbers : Cond.instanceMethod yX6_setNumbers ∈ gw := gm2 (i := 223) rfl rfl
theorem sl_X6_setNumbers : Cond.selects RX6 yX6_setNumbers yX6_setNumbers ∈ gw := gm2 (i := 224) rfl rfl
theorem cd_X6_setNumbers : Cond.code yX6_setNumbers cX6_setNumbers 5 (none : Option FieldType) ∈ gw := gm2 (i := 225) rfl rfl
theorem ml_X2_77 : Cond.methodLink RX2 77 yX1_post ∈ gw := gm2 (i := 226) rfl rfl
theorem ml_X2_50 : Cond.methodLink RX2 50 yX2_begin ∈ gw := gm2 (i := 227) rfl rfl
theorem im_X2_begin : Cond.instanceMethod yX2_begin ∈ gw := gm2 (i := 229) rfl rfl
theorem cd_X2_begin : Cond.code yX2_begin cX2_begin 3 (none : Option FieldType) ∈ gw := gm2 (i := 230) rfl rfl
theorem ml_X10_224 : Cond.methodLink RX10 224 yX3_takeTurn ∈ gw := gm2 (i := 231) rfl rfl
theorem im_X3_takeTurn : Cond.instanceMethod yX3_takeTurn ∈ gw := gm2 (i := 232) rfl rfl
theorem sl_X3_takeTurn : Cond.selects RX3 yX3_takeTurn yX3_takeTurn ∈ gw := gm2 (i := 233) rfl rfl
theorem cd_X3_takeTurn : Cond.code yX3_takeTurn cX3_takeTurn 4 (none : Option FieldType) ∈ gw := gm2 (i := 234) rfl rfl
theorem ml_X3_43 : Cond.methodLink RX3 43 yX0_firstFor ∈ gw := gm2 (i := 235) rfl rfl
theorem im_X0_firstFor : Cond.instanceMethod yX0_firstFor ∈ gw := gm2 (i := 236) rfl rfl
theorem sl_X0_firstFor : Cond.selects RX0 yX0_firstFor yX0_firstFor ∈ gw := gm2 (i := 237) rfl rfl
theorem cd_X0_firstFor : Cond.code yX0_firstFor cX0_firstFor 3 (some FieldType.int) ∈ gw := gm2 (i := 238) rfl rfl
theorem ml_X3_49 : Cond.methodLink RX3 49 yX0_take ∈ gw := gm2 (i := 239) rfl rfl
theorem ml_X3_64 : Cond.methodLink RX3 64 yX3_openFile ∈ gw := gm3 (i := 0) rfl rfl
theorem im_X3_openFile : Cond.instanceMethod yX3_openFile ∈ gw := gm3 (i := 2) rfl rfl
theorem cd_X3_openFile : Cond.code yX3_openFile cX3_openFile 4 (some FieldType.int) ∈ gw := gm3 (i := 3) rfl rfl
theorem ml_X3_121 : Cond.methodLink RX3 121 yX7_leastFree ∈ gw := gm3 (i := 4) rfl rfl
theorem im_X7_leastFree : Cond.instanceMethod yX7_leastFree ∈ gw := gm3 (i := 5) rfl rfl
theorem sl_X7_leastFree : Cond.selects RX7 yX7_leastFree yX7_leastFree ∈ gw := gm3 (i := 6) rfl rfl
theorem cd_X7_leastFree : Cond.code yX7_leastFree cX7_leastFree 3 (some FieldType.int) ∈ gw := gm3 (i := 7) rfl rfl
theorem ml_X7_22 : Cond.methodLink RX7 22 yX7_slot ∈ gw := gm3 (i := 8) rfl rfl
theorem im_X7_slot : Cond.instanceMethod yX7_slot ∈ gw := gm3 (i := 10) rfl rfl
theorem cd_X7_slot : Cond.code yX7_slot cX7_slot 4 (some FieldType.int) ∈ gw := gm3 (i := 11) rfl rfl
theorem nl_X7_18 : Cond.methodLinkNest RX7 18 yX10_isUser "ServerHouse" ∈ tables_1 := tm3 (i := 12) rfl
theorem ml_X3_124 : Cond.methodLink RX3 124 yX4_has ∈ gw := gm3 (i := 13) rfl rfl
theorem im_X4_has : Cond.instanceMethod yX4_has ∈ gw := gm3 (i := 14) rfl rfl
theorem sl_X4_has : Cond.selects RX4 yX4_has yX4_has ∈ gw := gm3 (i := 15) rfl rfl
theorem cd_X4_has : Cond.code yX4_has cX4_has 2 (some FieldType.boolean) ∈ gw := gm3 (i := 16) rfl rfl
theorem ml_X3_131 : Cond.methodLink RX3 131 yX4_make ∈ gw := gm3 (i := 17) rfl rfl
theorem im_X4_make : Cond.instanceMethod yX4_make ∈ gw := gm3 (i := 18) rfl rfl
theorem sl_X4_make : Cond.selects RX4 yX4_make yX4_make ∈ gw := gm3 (i := 19) rfl rfl
theorem cd_X4_make : Cond.code yX4_make cX4_make 2 (none : Option FieldType) ∈ gw := gm3 (i := 20) rfl rfl
theorem ml_X3_113 : Cond.methodLink RX3 113 yX7_set ∈ gw := gm3 (i := 21) rfl rfl
theorem im_X7_set : Cond.instanceMethod yX7_set ∈ gw := gm3 (i := 22) rfl rfl
theorem sl_X7_set : Cond.selects RX7 yX7_set yX7_set ∈ gw := gm3 (i := 23) rfl rfl
theorem cd_X7_set : Cond.code yX7_set cX7_set 6 (none : Option FieldType) ∈ gw := gm3 (i := 24) rfl rfl
theorem ml_X3_68 : Cond.methodLink RX3 68 yX1_send ∈ gw := gm3 (i := 25) rfl rfl
theorem ml_X3_72 : Cond.methodLink RX3 72 yX3_removeFile ∈ gw := gm3 (i := 26) rfl rfl
theorem im_X3_removeFile : Cond.instanceMethod yX3_removeFile ∈ gw := gm3 (i := 28) rfl rfl
theorem cd_X3_removeFile : Cond.code yX3_removeFile cX3_removeFile 2 (some FieldType.int) ∈ gw := gm3 (i := 29) rfl rfl
theorem ml_X3_134 : Cond.methodLink RX3 134 yX7_anybodyHas ∈ gw := gm3 (i := 30) rfl rfl
theorem im_X7_anybodyHas : Cond.instanceMethod yX7_anybodyHas ∈ gw := gm3 (i := 31) rfl rfl
theorem sl_X7_anybodyHas : Cond.selects RX7 yX7_anybodyHas yX7_anybodyHas ∈ gw := gm3 (i := 32) rfl rfl
theorem cd_X7_anybodyHas : Cond.code yX7_anybodyHas cX7_anybodyHas 3 (some FieldType.boolean) ∈ gw := gm3 (i := 33) rfl rfl
theorem ml_X3_137 : Cond.methodLink RX3 137 yX4_discard ∈ gw := gm3 (i := 34) rfl rfl
theorem im_X4_discard : Cond.instanceMethod yX4_discard ∈ gw := gm3 (i := 35) rfl rfl
theorem sl_X4_discard : Cond.selects RX4 yX4_discard yX4_discard ∈ gw := gm3 (i := 36) rfl rfl
theorem cd_X4_discard : Cond.code yX4_discard cX4_discard 3 (none : Option FieldType) ∈ gw := gm3 (i := 37) rfl rfl
theorem ml_X4_29 : Cond.methodLink RX4 29 yX4_has ∈ gw := gm3 (i := 38) rfl rfl
theorem ml_X4_40 : Cond.methodLink RX4 40 yX4_release ∈ gw := gm3 (i := 39) rfl rfl
theorem im_X4_release : Cond.instanceMethod yX4_release ∈ gw := gm3 (i := 41) rfl rfl
theorem cd_X4_release : Cond.code yX4_release cX4_release 2 (none : Option FieldType) ∈ gw := gm3 (i := 42) rfl rfl
theorem ml_X3_75 : Cond.methodLink RX3 75 yX3_read ∈ gw := gm3 (i := 43) rfl rfl
theorem im_X3_read : Cond.instanceMethod yX3_read ∈ gw := gm3 (i := 45) rfl rfl
theorem cd_X3_read : Cond.code yX3_read cX3_read 6 (none : Option FieldType) ∈ gw := gm3 (i := 46) rfl rfl
theorem ml_X3_107 : Cond.methodLink RX3 107 yX7_fileAt ∈ gw := gm3 (i := 47) rfl rfl
theorem im_X7_fileAt : Cond.instanceMethod yX7_fileAt ∈ gw := gm3 (i := 48) rfl rfl
theorem sl_X7_fileAt : Cond.selects RX7 yX7_fileAt yX7_fileAt ∈ gw := gm3 (i := 49) rfl rfl
theorem cd_X7_fileAt : Cond.code yX7_fileAt cX7_fileAt 4 (some FieldType.int) ∈ gw := gm3 (i := 50) rfl rfl
theorem ml_X3_140 : Cond.methodLink RX3 140 yX7_placeAt ∈ gw := gm3 (i := 51) rfl rfl
theorem im_X7_placeAt : Cond.instanceMethod yX7_placeAt ∈ gw := gm3 (i := 52) rfl rfl
theorem sl_X7_placeAt : Cond.selects RX7 yX7_placeAt yX7_placeAt ∈ gw := gm3 (i := 53) rfl rfl
theorem cd_X7_placeAt : Cond.code yX7_placeAt cX7_placeAt 4 (some FieldType.int) ∈ gw := gm3 (i := 54) rfl rfl
theorem ml_X3_110 : Cond.methodLink RX3 110 yX4_sizeOf ∈ gw := gm3 (i := 55) rfl rfl
theorem im_X4_sizeOf : Cond.instanceMethod yX4_sizeOf ∈ gw := gm3 (i := 56) rfl rfl
theorem sl_X4_sizeOf : Cond.selects RX4 yX4_sizeOf yX4_sizeOf ∈ gw := gm3 (i := 57) rfl rfl
theorem cd_X4_sizeOf : Cond.code yX4_sizeOf cX4_sizeOf 2 (some FieldType.int) ∈ gw := gm3 (i := 58) rfl rfl
theorem ml_X3_143 : Cond.methodLink RX3 143 yX3_takeInHand ∈ gw := gm3 (i := 59) rfl rfl
theorem im_X3_takeInHand : Cond.instanceMethod yX3_takeInHand ∈ gw := gm3 (i := 61) rfl rfl
theorem cd_X3_takeInHand : Cond.code yX3_takeInHand cX3_takeInHand 5 (none : Option FieldType) ∈ gw := gm3 (i := 62) rfl rfl
theorem ml_X3_147 : Cond.methodLink RX3 147 yX4_blockOf ∈ gw := gm3 (i := 63) rfl rfl
theorem im_X4_blockOf : Cond.instanceMethod yX4_blockOf ∈ gw := gm3 (i := 64) rfl rfl
theorem sl_X4_blockOf : Cond.selects RX4 yX4_blockOf yX4_blockOf ∈ gw := gm3 (i := 65) rfl rfl
theorem cd_X4_blockOf : Cond.code yX4_blockOf cX4_blockOf 4 (some FieldType.int) ∈ gw := gm3 (i := 66) rfl rfl
theorem kl_X4_33 : Cond.constantLong RX4 33 4 ∈ gw := gm3 (i := 67) rfl rfl
theorem kl_X4_35 : Cond.constantLong RX4 35 8 ∈ gw := gm3 (i := 68) rfl rfl
theorem ml_X3_154 : Cond.methodLink RX3 154 yX3_ask ∈ gw := gm3 (i := 69) rfl rfl
theorem im_X3_ask : Cond.instanceMethod yX3_ask ∈ gw := gm3 (i := 71) rfl rfl
theorem cd_X3_ask : Cond.code yX3_ask cX3_ask 4 (none : Option FieldType) ∈ gw := gm3 (i := 72) rfl rfl
theorem ml_X3_185 : Cond.methodLink RX3 185 yX1_draft ∈ gw := gm3 (i := 73) rfl rfl
theorem ml_X3_192 : Cond.methodLink RX3 192 yX6_setNumbers ∈ gw := gm3 (i := 74) rfl rfl
theorem ml_X3_196 : Cond.methodLink RX3 196 yX1_post ∈ gw := gm3 (i := 75) rfl rfl
theorem ml_X3_82 : Cond.methodLink RX3 82 yX3_write ∈ gw := gm3 (i := 76) rfl rfl
theorem im_X3_write : Cond.instanceMethod yX3_write ∈ gw := gm3 (i := 78) rfl rfl
theorem cd_X3_write : Cond.code yX3_write cX3_write 9 (none : Option FieldType) ∈ gw := gm3 (i := 79) rfl rfl
theorem ml_X3_157 : Cond.methodLink RX3 157 yX3_whyNotWrite ∈ gw := gm3 (i := 80) rfl rfl
theorem im_X3_whyNotWrite : Cond.instanceMethod yX3_whyNotWrite ∈ gw := gm3 (i := 82) rfl rfl
theorem cd_X3_whyNotWrite : Cond.code yX3_whyNotWrite cX3_whyNotWrite 3 (some FieldType.int) ∈ gw := gm3 (i := 83) rfl rfl
theorem ml_X3_160 : Cond.methodLink RX3 160 yX4_needsBlock ∈ gw := gm3 (i := 84) rfl rfl
theorem im_X4_needsBlock : Cond.instanceMethod yX4_needsBlock ∈ gw := gm3 (i := 85) rfl rfl
theorem sl_X4_needsBlock : Cond.selects RX4 yX4_needsBlock yX4_needsBlock ∈ gw := gm3 (i := 86) rfl rfl
theorem cd_X4_needsBlock : Cond.code yX4_needsBlock cX4_needsBlock 3 (some FieldType.boolean) ∈ gw := gm3 (i := 87) rfl rfl
theorem ml_X3_164 : Cond.methodLink RX3 164 yX4_takeBlock ∈ gw := gm3 (i := 88) rfl rfl
theorem im_X4_takeBlock : Cond.instanceMethod yX4_takeBlock ∈ gw := gm3 (i := 89) rfl rfl
theorem sl_X4_takeBlock : Cond.selects RX4 yX4_takeBlock yX4_takeBlock ∈ gw := gm3 (i := 90) rfl rfl
theorem cd_X4_takeBlock : Cond.code yX4_takeBlock cX4_takeBlock 4 (some FieldType.int) ∈ gw := gm3 (i := 91) rfl rfl
theorem ml_X3_87 : Cond.methodLink RX3 87 yX3_goOn ∈ gw := gm3 (i := 92) rfl rfl
theorem im_X3_goOn : Cond.instanceMethod yX3_goOn ∈ gw := gm3 (i := 94) rfl rfl
theorem cd_X3_goOn : Cond.code yX3_goOn cX3_goOn 6 (none : Option FieldType) ∈ gw := gm3 (i := 95) rfl rfl
theorem ml_X3_200 : Cond.methodLink RX3 200 yJ9_floorMod_7cf53 ∈ gw := gm3 (i := 96) rfl rfl
theorem sm_J9_floorMod_7cf53 : Cond.static yJ9_floorMod_7cf53 ∈ gw := gm3 (i := 97) rfl rfl
theorem cd_J9_floorMod_7cf53 : Cond.code yJ9_floorMod_7cf53 cJ9_floorMod_7cf53 3 (some FieldType.int) ∈ gw := gm3 (i := 98) rfl rfl
theorem ml_X3_205 : Cond.methodLink RX3 205 yX4_growOver ∈ gw := gm3 (i := 99) rfl rfl
theorem im_X4_growOver : Cond.instanceMethod yX4_growOver ∈ gw := gm3 (i := 100) rfl rfl
theorem sl_X4_growOver : Cond.selects RX4 yX4_growOver yX4_growOver ∈ gw := gm3 (i := 101) rfl rfl
theorem cd_X4_growOver : Cond.code yX4_growOver cX4_growOver 3 (none : Option FieldType) ∈ gw := gm3 (i := 102) rfl rfl
theorem ml_X3_117 : Cond.methodLink RX3 117 yX7_setPlace ∈ gw := gm3 (i := 103) rfl rfl
theorem im_X7_setPlace : Cond.instanceMethod yX7_setPlace ∈ gw := gm3 (i := 104) rfl rfl
theorem sl_X7_setPlace : Cond.selects RX7 yX7_setPlace yX7_setPlace ∈ gw := gm3 (i := 105) rfl rfl
theorem cd_X7_setPlace : Cond.code yX7_setPlace cX7_setPlace 5 (none : Option FieldType) ∈ gw := gm3 (i := 106) rfl rfl
theorem ml_X3_91 : Cond.methodLink RX3 91 yX3_hearOfLife ∈ gw := gm3 (i := 107) rfl rfl
theorem im_X3_hearOfLife : Cond.instanceMethod yX3_hearOfLife ∈ gw := gm3 (i := 109) rfl rfl
theorem cd_X3_hearOfLife : Cond.code yX3_hearOfLife cX3_hearOfLife 3 (none : Option FieldType) ∈ gw := gm3 (i := 110) rfl rfl
theorem ml_X3_95 : Cond.methodLink RX3 95 yX7_copyAll ∈ gw := gm3 (i := 111) rfl rfl
theorem im_X7_copyAll : Cond.instanceMethod yX7_copyAll ∈ gw := gm3 (i := 112) rfl rfl
theorem sl_X7_copyAll : Cond.selects RX7 yX7_copyAll yX7_copyAll ∈ gw := gm3 (i := 113) rfl rfl
theorem cd_X7_copyAll : Cond.code yX7_copyAll cX7_copyAll 4 (none : Option FieldType) ∈ gw := gm3 (i := 114) rfl rfl
theorem ml_X7_30 : Cond.methodLink RX7 30 yX7_fileAt ∈ gw := gm3 (i := 115) rfl rfl
theorem ml_X7_33 : Cond.methodLink RX7 33 yX7_placeAt ∈ gw := gm3 (i := 116) rfl rfl
theorem ml_X7_26 : Cond.methodLink RX7 26 yX7_set ∈ gw := gm3 (i := 117) rfl rfl
theorem ml_X3_99 : Cond.methodLink RX3 99 yX7_closeAll ∈ gw := gm3 (i := 118) rfl rfl
theorem im_X7_closeAll : Cond.instanceMethod yX7_closeAll ∈ gw := gm3 (i := 119) rfl rfl
theorem sl_X7_closeAll : Cond.selects RX7 yX7_closeAll yX7_closeAll ∈ gw := gm3 (i := 120) rfl rfl
theorem cd_X7_closeAll : Cond.code yX7_closeAll cX7_closeAll 3 (none : Option FieldType) ∈ gw := gm3 (i := 121) rfl rfl
theorem ml_X3_103 : Cond.methodLink RX3 103 yX3_handle ∈ gw := gm3 (i := 122) rfl rfl
theorem im_X3_handle : Cond.instanceMethod yX3_handle ∈ gw := gm3 (i := 124) rfl rfl
theorem cd_X3_handle : Cond.code yX3_handle cX3_handle 6 (some FieldType.int) ∈ gw := gm3 (i := 125) rfl rfl
theorem ml_X10_225 : Cond.methodLink RX10 225 yX8_takeTurn ∈ gw := gm3 (i := 126) rfl rfl
theorem im_X8_takeTurn : Cond.instanceMethod yX8_takeTurn ∈ gw := gm3 (i := 127) rfl rfl
theorem sl_X8_takeTurn : Cond.selects RX8 yX8_takeTurn yX8_takeTurn ∈ gw := gm3 (i := 128) rfl rfl
theorem cd_X8_takeTurn : Cond.code yX8_takeTurn cX8_takeTurn 6 (none : Option FieldType) ∈ gw := gm3 (i := 129) rfl rfl
theorem ml_X8_39 : Cond.methodLink RX8 39 yX0_firstFor ∈ gw := gm3 (i := 130) rfl rfl
theorem ml_X8_45 : Cond.methodLink RX8 45 yX0_take ∈ gw := gm3 (i := 131) rfl rfl
theorem nl_X8_55 : Cond.methodLinkNest RX8 55 yX10_isPart "ServerHouse" ∈ tables_1 := tm3 (i := 132) rfl
theorem ml_X8_61 : Cond.methodLink RX8 61 yX8_goOn ∈ gw := gm3 (i := 133) rfl rfl
theorem im_X8_goOn : Cond.instanceMethod yX8_goOn ∈ gw := gm3 (i := 135) rfl rfl
theorem cd_X8_goOn : Cond.code yX8_goOn cX8_goOn 3 (none : Option FieldType) ∈ gw := gm3 (i := 136) rfl rfl
theorem nl_X8_25 : Cond.methodLinkNest RX8 25 yX10_isUser "ServerHouse" ∈ tables_1 := tm3 (i := 137) rfl
theorem ml_X8_88 : Cond.methodLink RX8 88 yX1_send ∈ gw := gm3 (i := 138) rfl rfl
theorem ml_X8_120 : Cond.methodLink RX8 120 yX8_leaveChildren ∈ gw := gm3 (i := 139) rfl rfl
theorem im_X8_leaveChildren : Cond.instanceMethod yX8_leaveChildren ∈ gw := gm3 (i := 141) rfl rfl
theorem cd_X8_leaveChildren : Cond.code yX8_leaveChildren cX8_leaveChildren 3 (none : Option FieldType) ∈ gw := gm3 (i := 142) rfl rfl
theorem ml_X8_117 : Cond.methodLink RX8 117 yX8_collect ∈ gw := gm3 (i := 143) rfl rfl
theorem im_X8_collect : Cond.instanceMethod yX8_collect ∈ gw := gm3 (i := 145) rfl rfl
theorem cd_X8_collect : Cond.code yX8_collect cX8_collect 2 (some FieldType.int) ∈ gw := gm3 (i := 146) rfl rfl
theorem ml_X8_65 : Cond.methodLink RX8 65 yX8_fork ∈ gw := gm3 (i := 147) rfl rfl
theorem im_X8_fork : Cond.instanceMethod yX8_fork ∈ gw := gm3 (i := 149) rfl rfl
theorem cd_X8_fork : Cond.code yX8_fork cX8_fork 4 (none : Option FieldType) ∈ gw := gm3 (i := 150) rfl rfl
theorem ml_X8_92 : Cond.methodLink RX8 92 yX8_waitFor ∈ gw := gm3 (i := 151) rfl rfl
theorem im_X8_waitFor : Cond.instanceMethod yX8_waitFor ∈ gw := gm3 (i := 153) rfl rfl
theorem cd_X8_waitFor : Cond.code yX8_waitFor cX8_waitFor 4 (none : Option FieldType) ∈ gw := gm3 (i := 154) rfl rfl
theorem ml_X8_72 : Cond.methodLink RX8 72 yJ9_floorMod_7cf53 ∈ gw := gm3 (i := 155) rfl rfl
theorem ml_X8_78 : Cond.methodLink RX8 78 yX8_end ∈ gw := gm3 (i := 156) rfl rfl
theorem im_X8_end : Cond.instanceMethod yX8_end ∈ gw := gm3 (i := 158) rfl rfl
theorem cd_X8_end : Cond.code yX8_end cX8_end 6 (none : Option FieldType) ∈ gw := gm3 (i := 159) rfl rfl
theorem ml_X8_96 : Cond.methodLink RX8 96 yX9_setCall ∈ gw := gm3 (i := 160) rfl rfl
theorem ml_X8_102 : Cond.methodLink RX8 102 yX1_end ∈ gw := gm3 (i := 161) rfl rfl
theorem ml_X8_105 : Cond.methodLink RX8 105 yX0_dropFrom ∈ gw := gm3 (i := 162) rfl rfl
theorem im_X0_dropFrom : Cond.instanceMethod yX0_dropFrom ∈ gw := gm3 (i := 163) rfl rfl
theorem sl_X0_dropFrom : Cond.selects RX0 yX0_dropFrom yX0_dropFrom ∈ gw := gm3 (i := 164) rfl rfl
theorem cd_X0_dropFrom : Cond.code yX0_dropFrom cX0_dropFrom 3 (none : Option FieldType) ∈ gw := gm3 (i := 165) rfl rfl
theorem ml_X0_28 : Cond.methodLink RX0 28 yX0_take ∈ gw := gm3 (i := 166) rfl rfl
theorem ml_X8_82 : Cond.methodLink RX8 82 yX8_await ∈ gw := gm3 (i := 167) rfl rfl
theorem im_X8_await : Cond.instanceMethod yX8_await ∈ gw := gm3 (i := 169) rfl rfl
theorem cd_X8_await : Cond.code yX8_await cX8_await 5 (none : Option FieldType) ∈ gw := gm3 (i := 170) rfl rfl
theorem ml_X10_228 : Cond.methodLink RX10 228 yX9_takeTurn ∈ gw := gm3 (i := 171) rfl rfl
theorem im_X9_takeTurn : Cond.instanceMethod yX9_takeTurn ∈ gw := gm3 (i := 172) rfl rfl
theorem sl_X9_takeTurn : Cond.selects RX9 yX9_takeTurn yX9_takeTurn ∈ gw := gm3 (i := 173) rfl rfl
theorem cd_X9_takeTurn : Cond.code yX9_takeTurn cX9_takeTurn 4 (none : Option FieldType) ∈ gw := gm3 (i := 174) rfl rfl
theorem ml_X9_32 : Cond.methodLink RX9 32 yX0_take ∈ gw := gm3 (i := 175) rfl rfl
theorem ml_L_32 : Cond.methodLink RL 32 yX10_until ∈ gw := gm3 (i := 176) rfl rfl
theorem im_X10_until : Cond.instanceMethod yX10_until ∈ gw := gm3 (i := 177) rfl rfl
theorem sl_X10_until : Cond.selects RX10 yX10_until yX10_until ∈ gw := gm3 (i := 178) rfl rfl
theorem cd_X10_until : Cond.code yX10_until cX10_until 4 (some FieldType.int) ∈ gw := gm3 (i := 179) rfl rfl
theorem ml_L_36 : Cond.methodLink RL 36 yX10_crash ∈ gw := gm3 (i := 180) rfl rfl
theorem im_X10_crash : Cond.instanceMethod yX10_crash ∈ gw := gm3 (i := 181) rfl rfl
theorem sl_X10_crash : Cond.selects RX10 yX10_crash yX10_crash ∈ gw := gm3 (i := 182) rfl rfl
theorem cd_X10_crash : Cond.code yX10_crash cX10_crash 1 (some FieldType.boolean) ∈ gw := gm3 (i := 183) rfl rfl
theorem ml_L_41 : Cond.methodLink RL 41 yX10_hang ∈ gw := gm3 (i := 184) rfl rfl
theorem im_X10_hang : Cond.instanceMethod yX10_hang ∈ gw := gm3 (i := 185) rfl rfl
theorem sl_X10_hang : Cond.selects RX10 yX10_hang yX10_hang ∈ gw := gm3 (i := 186) rfl rfl
theorem cd_X10_hang : Cond.code yX10_hang cX10_hang 1 (some FieldType.boolean) ∈ gw := gm3 (i := 187) rfl rfl
theorem ml_L_45 : Cond.methodLink RL 45 yX10_force ∈ gw := gm3 (i := 188) rfl rfl
theorem im_X10_force : Cond.instanceMethod yX10_force ∈ gw := gm3 (i := 189) rfl rfl
theorem sl_X10_force : Cond.selects RX10 yX10_force yX10_force ∈ gw := gm3 (i := 190) rfl rfl
theorem cd_X10_force : Cond.code yX10_force cX10_force 3 (some FieldType.int) ∈ gw := gm3 (i := 191) rfl rfl
theorem ml_X10_90 : Cond.methodLink RX10 90 yX10_isPart ∈ gw := gm3 (i := 192) rfl rfl
theorem ml_L_59 : Cond.methodLink RL 59 yX10_descriptor ∈ gw := gm3 (i := 193) rfl rfl
theorem im_X10_descriptor : Cond.instanceMethod yX10_descriptor ∈ gw := gm3 (i := 194) rfl rfl
theorem sl_X10_descriptor : Cond.selects RX10 yX10_descriptor yX10_descriptor ∈ gw := gm3 (i := 195) rfl rfl
theorem cd_X10_descriptor : Cond.code yX10_descriptor cX10_descriptor 4 (some FieldType.int) ∈ gw := gm3 (i := 196) rfl rfl
theorem ml_X10_128 : Cond.methodLink RX10 128 yX7_fileAt ∈ gw := gm3 (i := 197) rfl rfl
theorem ml_X10_132 : Cond.methodLink RX10 132 yX7_placeAt ∈ gw := gm3 (i := 198) rfl rfl
theorem ml_L_64 : Cond.methodLink RL 64 yX10_file ∈ gw := gm3 (i := 199) rfl rfl
theorem im_X10_file : Cond.instanceMethod yX10_file ∈ gw := gm3 (i := 200) rfl rfl
theorem sl_X10_file : Cond.selects RX10 yX10_file yX10_file ∈ gw := gm3 (i := 201) rfl rfl
theorem cd_X10_file : Cond.code yX10_file cX10_file 3 (some FieldType.int) ∈ gw := gm3 (i := 202) rfl rfl
theorem ml_X10_139 : Cond.methodLink RX10 139 yX4_sizeOf ∈ gw := gm3 (i := 203) rfl rfl
theorem ml_X10_144 : Cond.methodLink RX10 144 yX4_blockOf ∈ gw := gm3 (i := 204) rfl rfl
theorem ml_L_71 : Cond.methodLink RL 71 yX10_inbox ∈ gw := gm3 (i := 205) rfl rfl
theorem im_X10_inbox : Cond.instanceMethod yX10_inbox ∈ gw := gm3 (i := 206) rfl rfl
theorem sl_X10_inbox : Cond.selects RX10 yX10_inbox yX10_inbox ∈ gw := gm3 (i := 207) rfl rfl
theorem cd_X10_inbox : Cond.code yX10_inbox cX10_inbox 2 (some FieldType.int) ∈ gw := gm3 (i := 208) rfl rfl
theorem ml_L_75 : Cond.methodLink RL 75 yX10_message ∈ gw := gm3 (i := 209) rfl rfl
theorem im_X10_message : Cond.instanceMethod yX10_message ∈ gw := gm3 (i := 210) rfl rfl
theorem sl_X10_message : Cond.selects RX10 yX10_message yX10_message ∈ gw := gm3 (i := 211) rfl rfl
theorem cd_X10_message : Cond.code yX10_message cX10_message 5 (some FieldType.int) ∈ gw := gm3 (i := 212) rfl rfl
theorem ml_X10_162 : Cond.methodLink RX10 162 yX0_look ∈ gw := gm3 (i := 213) rfl rfl
theorem im_X0_look : Cond.instanceMethod yX0_look ∈ gw := gm3 (i := 214) rfl rfl
theorem sl_X0_look : Cond.selects RX0 yX0_look yX0_look ∈ gw := gm3 (i := 215) rfl rfl
theorem cd_X0_look : Cond.code yX0_look cX0_look 2 (some (FieldType.object "ServerHouse$Message")) ∈ gw := gm3 (i := 216) rfl rfl
theorem ml_L_79 : Cond.methodLink RL 79 yX10_count ∈ gw := gm3 (i := 217) rfl rfl
theorem im_X10_count : Cond.instanceMethod yX10_count ∈ gw := gm3 (i := 218) rfl rfl
theorem sl_X10_count : Cond.selects RX10 yX10_count yX10_count ∈ gw := gm3 (i := 219) rfl rfl
theorem cd_X10_count : Cond.code yX10_count cX10_count 2 (some FieldType.int) ∈ gw := gm3 (i := 220) rfl rfl
theorem ml_X10_204 : Cond.methodLink RX10 204 yX1_livingUsers ∈ gw := gm3 (i := 221) rfl rfl
theorem im_X1_livingUsers : Cond.instanceMethod yX1_livingUsers ∈ gw := gm3 (i := 222) rfl rfl
theorem sl_X1_livingUsers : Cond.selects RX1 yX1_livingUsers yX1_livingUsers ∈ gw := gm3 (i := 223) rfl rfl
theorem cd_X1_livingUsers : Cond.code yX1_livingUsers cX1_livingUsers 3 (some FieldType.int) ∈ gw := gm3 (i := 224) rfl rfl
theorem ml_L_49 : Cond.methodLink RL 49 yL_user ∈ gw := gm3 (i := 225) rfl rfl
theorem sm_L_user : Cond.static yL_user ∈ gw := gm3 (i := 226) rfl rfl
theorem ml_L_7 : Cond.methodLink RL 7 yX10_user ∈ gw := gm3 (i := 229) rfl rfl
theorem im_X10_user : Cond.instanceMethod yX10_user ∈ gw := gm3 (i := 230) rfl rfl
theorem sl_X10_user : Cond.selects RX10 yX10_user yX10_user ∈ gw := gm3 (i := 231) rfl rfl
theorem cd_X10_user : Cond.code yX10_user cX10_user 3 (some FieldType.int) ∈ gw := gm3 (i := 232) rfl rfl
theorem ac_byte : Cond.arrayClass .byte ∈ gw := gm4 (i := 58) rfl rfl
theorem ml_X10_100 : Cond.methodLink RX10 100 yX8_hasEnded ∈ gw := gm4 (i := 59) rfl rfl
theorem im_X8_hasEnded : Cond.instanceMethod yX8_hasEnded ∈ gw := gm4 (i := 60) rfl rfl
theorem sl_X8_hasEnded : Cond.selects RX8 yX8_hasEnded yX8_hasEnded ∈ gw := gm4 (i := 61) rfl rfl
theorem cd_X8_hasEnded : Cond.code yX8_hasEnded cX8_hasEnded 2 (some FieldType.boolean) ∈ gw := gm4 (i := 62) rfl rfl
theorem ml_X10_110 : Cond.methodLink RX10 110 yX8_parentOf ∈ gw := gm4 (i := 63) rfl rfl
theorem im_X8_parentOf : Cond.instanceMethod yX8_parentOf ∈ gw := gm4 (i := 64) rfl rfl
theorem sl_X8_parentOf : Cond.selects RX8 yX8_parentOf yX8_parentOf ∈ gw := gm4 (i := 65) rfl rfl
theorem cd_X8_parentOf : Cond.code yX8_parentOf cX8_parentOf 2 (some FieldType.int) ∈ gw := gm4 (i := 66) rfl rfl
theorem ml_X10_114 : Cond.methodLink RX10 114 yX8_codeOf ∈ gw := gm4 (i := 67) rfl rfl
theorem im_X8_codeOf : Cond.instanceMethod yX8_codeOf ∈ gw := gm4 (i := 68) rfl rfl
theorem sl_X8_codeOf : Cond.selects RX8 yX8_codeOf yX8_codeOf ∈ gw := gm4 (i := 69) rfl rfl
theorem cd_X8_codeOf : Cond.code yX8_codeOf cX8_codeOf 2 (some FieldType.int) ∈ gw := gm4 (i := 70) rfl rfl
theorem ml_X10_121 : Cond.methodLink RX10 121 yX7_howMany ∈ gw := gm4 (i := 71) rfl rfl
theorem im_X7_howMany : Cond.instanceMethod yX7_howMany ∈ gw := gm4 (i := 72) rfl rfl
theorem sl_X7_howMany : Cond.selects RX7 yX7_howMany yX7_howMany ∈ gw := gm4 (i := 73) rfl rfl
theorem cd_X7_howMany : Cond.code yX7_howMany cX7_howMany 4 (some FieldType.int) ∈ gw := gm4 (i := 74) rfl rfl
theorem ml_L_68 : Cond.methodLink RL 68 yL_disk ∈ gw := gm4 (i := 76) rfl rfl
theorem sm_L_disk : Cond.static yL_disk ∈ gw := gm4 (i := 77) rfl rfl
theorem ml_L_15 : Cond.methodLink RL 15 yX10_disk ∈ gw := gm4 (i := 79) rfl rfl
theorem im_X10_disk : Cond.instanceMethod yX10_disk ∈ gw := gm4 (i := 80) rfl rfl
theorem sl_X10_disk : Cond.selects RX10 yX10_disk yX10_disk ∈ gw := gm4 (i := 81) rfl rfl
theorem cd_X10_disk : Cond.code yX10_disk cX10_disk 3 (some FieldType.int) ∈ gw := gm4 (i := 82) rfl rfl
theorem ml_L_55 : Cond.methodLink RL 55 yX11_thrown ∈ gw := gm4 (i := 84) rfl rfl
theorem im_X11_thrown : Cond.instanceMethod yX11_thrown ∈ gw := gm4 (i := 85) rfl rfl
theorem sl_X11_thrown : Cond.selects RX11 yX11_thrown yX11_thrown ∈ gw := gm4 (i := 86) rfl rfl
theorem cd_X11_thrown : Cond.code yX11_thrown cX11_thrown 1 (some FieldType.int) ∈ gw := gm4 (i := 87) rfl rfl
theorem cl_L_19 : Cond.classLink RL 19 RX11 ∈ gw := gm4 (i := 88) rfl rfl
theorem is_X11 : Cond.instantiable RX11 49 ∈ gw := gm4 (i := 89) rfl rfl
theorem ml_L_21 : Cond.methodLink RL 21 yX11_init ∈ gw := gm4 (i := 90) rfl rfl
theorem im_X11_init : Cond.instanceMethod yX11_init ∈ gw := gm4 (i := 91) rfl rfl
theorem cd_X11_init : Cond.code yX11_init cX11_init 2 (none : Option FieldType) ∈ gw := gm4 (i := 92) rfl rfl
theorem ml_X11_67 : Cond.methodLink RX11 67 objectInit ∈ gw := gm4 (i := 93) rfl rfl
theorem ml_L_31 : Cond.methodLink RL 31 yX11_steps ∈ gw := gm5 (i := 2) rfl rfl
theorem im_X11_steps : Cond.instanceMethod yX11_steps ∈ gw := gm5 (i := 3) rfl rfl
theorem sl_X11_steps : Cond.selects RX11 yX11_steps yX11_steps ∈ gw := gm5 (i := 4) rfl rfl
theorem cd_X11_steps : Cond.code yX11_steps cX11_steps 3 (some FieldType.int) ∈ gw := gm5 (i := 5) rfl rfl
theorem ml_X11_281 : Cond.methodLink RX11 281 yX11_turn ∈ gw := gm5 (i := 6) rfl rfl
theorem im_X11_turn : Cond.instanceMethod yX11_turn ∈ gw := gm5 (i := 8) rfl rfl
theorem cd_X11_turn : Cond.code yX11_turn cX11_turn 2 (none : Option FieldType) ∈ gw := gm5 (i := 9) rfl rfl
theorem ml_X11_29 : Cond.methodLink RX11 29 yX11_lives ∈ gw := gm5 (i := 10) rfl rfl
theorem im_X11_lives : Cond.instanceMethod yX11_lives ∈ gw := gm5 (i := 12) rfl rfl
theorem cd_X11_lives : Cond.code yX11_lives cX11_lives 2 (some FieldType.boolean) ∈ gw := gm5 (i := 13) rfl rfl
theorem ml_X11_11 : Cond.methodLink RX11 11 yX11_isUser ∈ gw := gm5 (i := 14) rfl rfl
theorem sm_X11_isUser : Cond.static yX11_isUser ∈ gw := gm5 (i := 15) rfl rfl
theorem cd_X11_isUser : Cond.code yX11_isUser cX11_isUser 1 (some FieldType.boolean) ∈ gw := gm5 (i := 16) rfl rfl
theorem ml_X11_266 : Cond.methodLink RX11 266 yX11_keeper ∈ gw := gm5 (i := 17) rfl rfl
theorem im_X11_keeper : Cond.instanceMethod yX11_keeper ∈ gw := gm5 (i := 19) rfl rfl
theorem cd_X11_keeper : Cond.code yX11_keeper cX11_keeper 1 (none : Option FieldType) ∈ gw := gm5 (i := 20) rfl rfl
theorem ml_X11_137 : Cond.methodLink RX11 137 yX11_sendsAgain ∈ gw := gm5 (i := 21) rfl rfl
theorem im_X11_sendsAgain : Cond.instanceMethod yX11_sendsAgain ∈ gw := gm5 (i := 23) rfl rfl
theorem cd_X11_sendsAgain : Cond.code yX11_sendsAgain cX11_sendsAgain 3 (some FieldType.boolean) ∈ gw := gm5 (i := 24) rfl rfl
theorem ml_X11_57 : Cond.methodLink RX11 57 yX11_sends ∈ gw := gm5 (i := 25) rfl rfl
theorem im_X11_sends : Cond.instanceMethod yX11_sends ∈ gw := gm5 (i := 27) rfl rfl
theorem cd_X11_sends : Cond.code yX11_sends cX11_sends 4 (none : Option FieldType) ∈ gw := gm5 (i := 28) rfl rfl
theorem ml_X11_47 : Cond.methodLink RX11 47 yX11_send ∈ gw := gm5 (i := 29) rfl rfl
theorem im_X11_send : Cond.instanceMethod yX11_send ∈ gw := gm5 (i := 31) rfl rfl
theorem cd_X11_send : Cond.code yX11_send cX11_send 6 (some FieldType.int) ∈ gw := gm5 (i := 32) rfl rfl
theorem ml_X11_22 : Cond.methodLink RX11 22 yX11_isAllowed ∈ gw := gm5 (i := 33) rfl rfl
theorem sm_X11_isAllowed : Cond.static yX11_isAllowed ∈ gw := gm5 (i := 34) rfl rfl
theorem cd_X11_isAllowed : Cond.code yX11_isAllowed cX11_isAllowed 2 (some FieldType.boolean) ∈ gw := gm5 (i := 35) rfl rfl
theorem ml_X11_140 : Cond.methodLink RX11 140 yX11_starts ∈ gw := gm5 (i := 36) rfl rfl
theorem im_X11_starts : Cond.instanceMethod yX11_starts ∈ gw := gm5 (i := 38) rfl rfl
theorem cd_X11_starts : Cond.code yX11_starts cX11_starts 1 (none : Option FieldType) ∈ gw := gm5 (i := 39) rfl rfl
theorem ml_X11_152 : Cond.methodLink RX11 152 yX11_drafts ∈ gw := gm5 (i := 40) rfl rfl
theorem im_X11_drafts : Cond.instanceMethod yX11_drafts ∈ gw := gm5 (i := 42) rfl rfl
theorem cd_X11_drafts : Cond.code yX11_drafts cX11_drafts 5 (none : Option FieldType) ∈ gw := gm5 (i := 43) rfl rfl
theorem ml_X11_143 : Cond.methodLink RX11 143 yX11_takeOut ∈ gw := gm5 (i := 44) rfl rfl
theorem im_X11_takeOut : Cond.instanceMethod yX11_takeOut ∈ gw := gm5 (i := 46) rfl rfl
theorem cd_X11_takeOut : Cond.code yX11_takeOut cX11_takeOut 5 (none : Option FieldType) ∈ gw := gm5 (i := 47) rfl rfl
theorem ml_X11_64 : Cond.methodLink RX11 64 yX11_drop ∈ gw := gm5 (i := 48) rfl rfl
theorem im_X11_drop : Cond.instanceMethod yX11_drop ∈ gw := gm5 (i := 50) rfl rfl
theorem cd_X11_drop : Cond.code yX11_drop cX11_drop 4 (none : Option FieldType) ∈ gw := gm5 (i := 51) rfl rfl
theorem ml_X11_149 : Cond.methodLink RX11 149 yX11_crashesNow ∈ gw := gm5 (i := 52) rfl rfl
theorem im_X11_crashesNow : Cond.instanceMethod yX11_crashesNow ∈ gw := gm5 (i := 54) rfl rfl
theorem cd_X11_crashesNow : Cond.code yX11_crashesNow cX11_crashesNow 1 (none : Option FieldType) ∈ gw := gm5 (i := 55) rfl rfl
theorem ml_X11_269 : Cond.methodLink RX11 269 yX11_driver ∈ gw := gm5 (i := 56) rfl rfl
theorem im_X11_driver : Cond.instanceMethod yX11_driver ∈ gw := gm5 (i := 58) rfl rfl
theorem cd_X11_driver : Cond.code yX11_driver cX11_driver 2 (none : Option FieldType) ∈ gw := gm5 (i := 59) rfl rfl
theorem ml_X11_156 : Cond.methodLink RX11 156 yX11_field ∈ gw := gm5 (i := 60) rfl rfl
theorem im_X11_field : Cond.instanceMethod yX11_field ∈ gw := gm5 (i := 62) rfl rfl
theorem cd_X11_field : Cond.code yX11_field cX11_field 4 (some FieldType.int) ∈ gw := gm5 (i := 63) rfl rfl
theorem ml_X11_160 : Cond.methodLink RX11 160 yX11_works ∈ gw := gm5 (i := 64) rfl rfl
theorem im_X11_works : Cond.instanceMethod yX11_works ∈ gw := gm5 (i := 66) rfl rfl
theorem cd_X11_works : Cond.code yX11_works cX11_works 2 (none : Option FieldType) ∈ gw := gm5 (i := 67) rfl rfl
theorem ml_X11_272 : Cond.methodLink RX11 272 yX11_files ∈ gw := gm5 (i := 68) rfl rfl
theorem im_X11_files : Cond.instanceMethod yX11_files ∈ gw := gm5 (i := 70) rfl rfl
theorem cd_X11_files : Cond.code yX11_files cX11_files 3 (none : Option FieldType) ∈ gw := gm5 (i := 71) rfl rfl
theorem ml_X11_169 : Cond.methodLink RX11 169 yX11_goesOn ∈ gw := gm5 (i := 72) rfl rfl
theorem im_X11_goesOn : Cond.instanceMethod yX11_goesOn ∈ gw := gm5 (i := 74) rfl rfl
theorem cd_X11_goesOn : Cond.code yX11_goesOn cX11_goesOn 4 (none : Option FieldType) ∈ gw := gm5 (i := 75) rfl rfl
theorem ml_X11_196 : Cond.methodLink RX11 196 yX11_tells ∈ gw := gm5 (i := 76) rfl rfl
theorem im_X11_tells : Cond.instanceMethod yX11_tells ∈ gw := gm5 (i := 78) rfl rfl
theorem cd_X11_tells : Cond.code yX11_tells cX11_tells 4 (none : Option FieldType) ∈ gw := gm5 (i := 79) rfl rfl
theorem ml_X11_172 : Cond.methodLink RX11 172 yX11_asksDriver ∈ gw := gm5 (i := 80) rfl rfl
theorem im_X11_asksDriver : Cond.instanceMethod yX11_asksDriver ∈ gw := gm5 (i := 82) rfl rfl
theorem cd_X11_asksDriver : Cond.code yX11_asksDriver cX11_asksDriver 2 (none : Option FieldType) ∈ gw := gm5 (i := 83) rfl rfl
theorem ml_X11_175 : Cond.methodLink RX11 175 yX11_copies ∈ gw := gm5 (i := 84) rfl rfl
theorem im_X11_copies : Cond.instanceMethod yX11_copies ∈ gw := gm5 (i := 86) rfl rfl
theorem cd_X11_copies : Cond.code yX11_copies cX11_copies 4 (none : Option FieldType) ∈ gw := gm5 (i := 87) rfl rfl
theorem ml_X11_178 : Cond.methodLink RX11 178 yX11_closesAll ∈ gw := gm5 (i := 88) rfl rfl
theorem im_X11_closesAll : Cond.instanceMethod yX11_closesAll ∈ gw := gm5 (i := 90) rfl rfl
theorem cd_X11_closesAll : Cond.code yX11_closesAll cX11_closesAll 3 (none : Option FieldType) ∈ gw := gm5 (i := 91) rfl rfl
theorem ml_X11_182 : Cond.methodLink RX11 182 yX11_begins ∈ gw := gm5 (i := 92) rfl rfl
theorem im_X11_begins : Cond.instanceMethod yX11_begins ∈ gw := gm5 (i := 94) rfl rfl
theorem cd_X11_begins : Cond.code yX11_begins cX11_begins 8 (none : Option FieldType) ∈ gw := gm5 (i := 95) rfl rfl
theorem ml_X11_192 : Cond.methodLink RX11 192 yX11_opens ∈ gw := gm5 (i := 96) rfl rfl
theorem im_X11_opens : Cond.instanceMethod yX11_opens ∈ gw := gm5 (i := 98) rfl rfl
theorem cd_X11_opens : Cond.code yX11_opens cX11_opens 4 (some FieldType.int) ∈ gw := gm5 (i := 99) rfl rfl
theorem ml_X11_209 : Cond.methodLink RX11 209 yX11_filesThere ∈ gw := gm5 (i := 100) rfl rfl
theorem im_X11_filesThere : Cond.instanceMethod yX11_filesThere ∈ gw := gm5 (i := 102) rfl rfl
theorem cd_X11_filesThere : Cond.code yX11_filesThere cX11_filesThere 3 (some FieldType.int) ∈ gw := gm5 (i := 103) rfl rfl
theorem ml_X11_199 : Cond.methodLink RX11 199 yX11_removes ∈ gw := gm5 (i := 104) rfl rfl
theorem im_X11_removes : Cond.instanceMethod yX11_removes ∈ gw := gm5 (i := 106) rfl rfl
theorem cd_X11_removes : Cond.code yX11_removes cX11_removes 3 (some FieldType.int) ∈ gw := gm5 (i := 107) rfl rfl
theorem ml_X11_203 : Cond.methodLink RX11 203 yX11_reads ∈ gw := gm5 (i := 108) rfl rfl
theorem im_X11_reads : Cond.instanceMethod yX11_reads ∈ gw := gm5 (i := 110) rfl rfl
theorem cd_X11_reads : Cond.code yX11_reads cX11_reads 5 (none : Option FieldType) ∈ gw := gm5 (i := 111) rfl rfl
theorem ml_X11_206 : Cond.methodLink RX11 206 yX11_writes ∈ gw := gm5 (i := 112) rfl rfl
theorem im_X11_writes : Cond.instanceMethod yX11_writes ∈ gw := gm5 (i := 114) rfl rfl
theorem cd_X11_writes : Cond.code yX11_writes cX11_writes 8 (none : Option FieldType) ∈ gw := gm5 (i := 115) rfl rfl
theorem ml_X11_275 : Cond.methodLink RX11 275 yX11_processes ∈ gw := gm5 (i := 116) rfl rfl
theorem im_X11_processes : Cond.instanceMethod yX11_processes ∈ gw := gm5 (i := 118) rfl rfl
theorem cd_X11_processes : Cond.code yX11_processes cX11_processes 4 (none : Option FieldType) ∈ gw := gm5 (i := 119) rfl rfl
theorem ml_X11_228 : Cond.methodLink RX11 228 yX11_forks ∈ gw := gm5 (i := 120) rfl rfl
theorem im_X11_forks : Cond.instanceMethod yX11_forks ∈ gw := gm5 (i := 122) rfl rfl
theorem cd_X11_forks : Cond.code yX11_forks cX11_forks 3 (none : Option FieldType) ∈ gw := gm5 (i := 123) rfl rfl
theorem ml_X11_245 : Cond.methodLink RX11 245 yX11_holds ∈ gw := gm5 (i := 124) rfl rfl
theorem im_X11_holds : Cond.instanceMethod yX11_holds ∈ gw := gm5 (i := 126) rfl rfl
theorem cd_X11_holds : Cond.code yX11_holds cX11_holds 4 (none : Option FieldType) ∈ gw := gm5 (i := 127) rfl rfl
theorem ml_X11_231 : Cond.methodLink RX11 231 yJ9_floorMod_7cf53 ∈ gw := gm5 (i := 128) rfl rfl
theorem ml_X11_236 : Cond.methodLink RX11 236 yX11_ends ∈ gw := gm5 (i := 129) rfl rfl
theorem im_X11_ends : Cond.instanceMethod yX11_ends ∈ gw := gm5 (i := 131) rfl rfl
theorem cd_X11_ends : Cond.code yX11_ends cX11_ends 7 (none : Option FieldType) ∈ gw := gm5 (i := 132) rfl rfl
theorem ml_X11_239 : Cond.methodLink RX11 239 yX11_waitsFor ∈ gw := gm5 (i := 133) rfl rfl
theorem im_X11_waitsFor : Cond.instanceMethod yX11_waitsFor ∈ gw := gm5 (i := 135) rfl rfl
theorem cd_X11_waitsFor : Cond.code yX11_waitsFor cX11_waitsFor 6 (none : Option FieldType) ∈ gw := gm5 (i := 136) rfl rfl
theorem ml_X11_257 : Cond.methodLink RX11 257 yX11_freed ∈ gw := gm5 (i := 137) rfl rfl
theorem im_X11_freed : Cond.instanceMethod yX11_freed ∈ gw := gm5 (i := 139) rfl rfl
theorem cd_X11_freed : Cond.code yX11_freed cX11_freed 2 (some FieldType.int) ∈ gw := gm5 (i := 140) rfl rfl
theorem ml_X11_242 : Cond.methodLink RX11 242 yX11_done ∈ gw := gm5 (i := 141) rfl rfl
theorem im_X11_done : Cond.instanceMethod yX11_done ∈ gw := gm5 (i := 143) rfl rfl
theorem cd_X11_done : Cond.code yX11_done cX11_done 3 (none : Option FieldType) ∈ gw := gm5 (i := 144) rfl rfl
theorem ml_X11_278 : Cond.methodLink RX11 278 yX11_ofUser ∈ gw := gm5 (i := 145) rfl rfl
theorem im_X11_ofUser : Cond.instanceMethod yX11_ofUser ∈ gw := gm5 (i := 147) rfl rfl
theorem cd_X11_ofUser : Cond.code yX11_ofUser cX11_ofUser 2 (none : Option FieldType) ∈ gw := gm5 (i := 148) rfl rfl
theorem ml_L_35 : Cond.methodLink RL 35 yX11_until ∈ gw := gm5 (i := 149) rfl rfl
theorem im_X11_until : Cond.instanceMethod yX11_until ∈ gw := gm5 (i := 150) rfl rfl
theorem sl_X11_until : Cond.selects RX11 yX11_until yX11_until ∈ gw := gm5 (i := 151) rfl rfl
theorem cd_X11_until : Cond.code yX11_until cX11_until 4 (some FieldType.int) ∈ gw := gm5 (i := 152) rfl rfl
theorem ml_L_26 : Cond.methodLink RL 26 yX11_call ∈ gw := gm5 (i := 153) rfl rfl
theorem im_X11_call : Cond.instanceMethod yX11_call ∈ gw := gm5 (i := 154) rfl rfl
theorem sl_X11_call : Cond.selects RX11 yX11_call yX11_call ∈ gw := gm5 (i := 155) rfl rfl
theorem cd_X11_call : Cond.code yX11_call cX11_call 5 (some FieldType.int) ∈ gw := gm5 (i := 156) rfl rfl
theorem ml_L_40 : Cond.methodLink RL 40 yX11_crash ∈ gw := gm5 (i := 157) rfl rfl
theorem im_X11_crash : Cond.instanceMethod yX11_crash ∈ gw := gm5 (i := 158) rfl rfl
theorem sl_X11_crash : Cond.selects RX11 yX11_crash yX11_crash ∈ gw := gm5 (i := 159) rfl rfl
theorem cd_X11_crash : Cond.code yX11_crash cX11_crash 1 (some FieldType.boolean) ∈ gw := gm5 (i := 160) rfl rfl
theorem ml_L_44 : Cond.methodLink RL 44 yX11_hang ∈ gw := gm5 (i := 161) rfl rfl
theorem im_X11_hang : Cond.instanceMethod yX11_hang ∈ gw := gm5 (i := 162) rfl rfl
theorem sl_X11_hang : Cond.selects RX11 yX11_hang yX11_hang ∈ gw := gm5 (i := 163) rfl rfl
theorem cd_X11_hang : Cond.code yX11_hang cX11_hang 1 (some FieldType.boolean) ∈ gw := gm5 (i := 164) rfl rfl
theorem ml_L_48 : Cond.methodLink RL 48 yX11_force ∈ gw := gm5 (i := 165) rfl rfl
theorem im_X11_force : Cond.instanceMethod yX11_force ∈ gw := gm5 (i := 166) rfl rfl
theorem sl_X11_force : Cond.selects RX11 yX11_force yX11_force ∈ gw := gm5 (i := 167) rfl rfl
theorem cd_X11_force : Cond.code yX11_force cX11_force 3 (some FieldType.int) ∈ gw := gm5 (i := 168) rfl rfl
theorem ml_X11_284 : Cond.methodLink RX11 284 yX11_isPart ∈ gw := gm5 (i := 169) rfl rfl
theorem sm_X11_isPart : Cond.static yX11_isPart ∈ gw := gm5 (i := 170) rfl rfl
theorem cd_X11_isPart : Cond.code yX11_isPart cX11_isPart 1 (some FieldType.boolean) ∈ gw := gm5 (i := 171) rfl rfl
theorem ml_L_54 : Cond.methodLink RL 54 yX11_user ∈ gw := gm5 (i := 172) rfl rfl
theorem im_X11_user : Cond.instanceMethod yX11_user ∈ gw := gm5 (i := 173) rfl rfl
theorem sl_X11_user : Cond.selects RX11 yX11_user yX11_user ∈ gw := gm5 (i := 174) rfl rfl
theorem cd_X11_user : Cond.code yX11_user cX11_user 5 (some FieldType.int) ∈ gw := gm5 (i := 175) rfl rfl
theorem ml_L_63 : Cond.methodLink RL 63 yX11_descriptor ∈ gw := gm5 (i := 176) rfl rfl
theorem im_X11_descriptor : Cond.instanceMethod yX11_descriptor ∈ gw := gm5 (i := 177) rfl rfl
theorem sl_X11_descriptor : Cond.selects RX11 yX11_descriptor yX11_descriptor ∈ gw := gm5 (i := 178) rfl rfl
theorem cd_X11_descriptor : Cond.code yX11_descriptor cX11_descriptor 4 (some FieldType.int) ∈ gw := gm5 (i := 179) rfl rfl
theorem ml_L_67 : Cond.methodLink RL 67 yX11_file ∈ gw := gm5 (i := 180) rfl rfl
theorem im_X11_file : Cond.instanceMethod yX11_file ∈ gw := gm5 (i := 181) rfl rfl
theorem sl_X11_file : Cond.selects RX11 yX11_file yX11_file ∈ gw := gm5 (i := 182) rfl rfl
theorem cd_X11_file : Cond.code yX11_file cX11_file 3 (some FieldType.int) ∈ gw := gm5 (i := 183) rfl rfl
theorem ml_L_70 : Cond.methodLink RL 70 yX11_disk ∈ gw := gm5 (i := 184) rfl rfl
theorem im_X11_disk : Cond.instanceMethod yX11_disk ∈ gw := gm5 (i := 185) rfl rfl
theorem sl_X11_disk : Cond.selects RX11 yX11_disk yX11_disk ∈ gw := gm5 (i := 186) rfl rfl
theorem cd_X11_disk : Cond.code yX11_disk cX11_disk 3 (some FieldType.int) ∈ gw := gm5 (i := 187) rfl rfl
theorem ml_L_74 : Cond.methodLink RL 74 yX11_inbox ∈ gw := gm5 (i := 188) rfl rfl
theorem im_X11_inbox : Cond.instanceMethod yX11_inbox ∈ gw := gm5 (i := 189) rfl rfl
theorem sl_X11_inbox : Cond.selects RX11 yX11_inbox yX11_inbox ∈ gw := gm5 (i := 190) rfl rfl
theorem cd_X11_inbox : Cond.code yX11_inbox cX11_inbox 2 (some FieldType.int) ∈ gw := gm5 (i := 191) rfl rfl
theorem ml_L_78 : Cond.methodLink RL 78 yX11_message ∈ gw := gm5 (i := 192) rfl rfl
theorem im_X11_message : Cond.instanceMethod yX11_message ∈ gw := gm5 (i := 193) rfl rfl
theorem sl_X11_message : Cond.selects RX11 yX11_message yX11_message ∈ gw := gm5 (i := 194) rfl rfl
theorem cd_X11_message : Cond.code yX11_message cX11_message 4 (some FieldType.int) ∈ gw := gm5 (i := 195) rfl rfl
theorem ml_L_82 : Cond.methodLink RL 82 yX11_count ∈ gw := gm5 (i := 196) rfl rfl
theorem im_X11_count : Cond.instanceMethod yX11_count ∈ gw := gm5 (i := 197) rfl rfl
theorem sl_X11_count : Cond.selects RX11 yX11_count yX11_count ∈ gw := gm5 (i := 198) rfl rfl
theorem cd_X11_count : Cond.code yX11_count cX11_count 5 (some FieldType.int) ∈ gw := gm5 (i := 199) rfl rfl
theorem ac_long : Cond.arrayClass .long ∈ gw := gm5 (i := 200) rfl rfl
theorem sl_X10_giveTurn : Cond.selects RX10 yX10_giveTurn yX10_giveTurn ∈ gw := gp1 (i := 0) (q := (yX10_giveTurn, _)) rfl rfl
theorem sl_X5_watchDead : Cond.selects RX5 yX5_watchDead yX5_watchDead ∈ gw := gp1 (i := 1) (q := (yX5_watchDead, _)) rfl rfl
theorem sl_X5_check : Cond.selects RX5 yX5_check yX5_check ∈ gw := gp1 (i := 2) (q := (yX5_check, _)) rfl rfl
theorem sl_X10_breakDriver : Cond.selects RX10 yX10_breakDriver yX10_breakDriver ∈ gw := gp1 (i := 3) (q := (yX10_breakDriver, _)) rfl rfl
theorem sl_X2_work : Cond.selects RX2 yX2_work yX2_work ∈ gw := gp1 (i := 4) (q := (yX2_work, _)) rfl rfl
theorem sl_X2_begin : Cond.selects RX2 yX2_begin yX2_begin ∈ gw := gp1 (i := 5) (q := (yX2_begin, _)) rfl rfl
theorem sl_X3_openFile : Cond.selects RX3 yX3_openFile yX3_openFile ∈ gw := gp1 (i := 6) (q := (yX3_openFile, _)) rfl rfl
theorem sl_X7_slot : Cond.selects RX7 yX7_slot yX7_slot ∈ gw := gp1 (i := 7) (q := (yX7_slot, _)) rfl rfl
theorem sl_X3_removeFile : Cond.selects RX3 yX3_removeFile yX3_removeFile ∈ gw := gp1 (i := 8) (q := (yX3_removeFile, _)) rfl rfl
theorem sl_X4_release : Cond.selects RX4 yX4_release yX4_release ∈ gw := gp1 (i := 9) (q := (yX4_release, _)) rfl rfl
theorem sl_X3_read : Cond.selects RX3 yX3_read yX3_read ∈ gw := gp1 (i := 10) (q := (yX3_read, _)) rfl rfl
theorem sl_X3_takeInHand : Cond.selects RX3 yX3_takeInHand yX3_takeInHand ∈ gw := gp1 (i := 11) (q := (yX3_takeInHand, _)) rfl rfl
theorem sl_X3_ask : Cond.selects RX3 yX3_ask yX3_ask ∈ gw := gp1 (i := 12) (q := (yX3_ask, _)) rfl rfl
theorem sl_X3_write : Cond.selects RX3 yX3_write yX3_write ∈ gw := gp1 (i := 13) (q := (yX3_write, _)) rfl rfl
theorem sl_X3_whyNotWrite : Cond.selects RX3 yX3_whyNotWrite yX3_whyNotWrite ∈ gw := gp1 (i := 14) (q := (yX3_whyNotWrite, _)) rfl rfl
theorem sl_X3_goOn : Cond.selects RX3 yX3_goOn yX3_goOn ∈ gw := gp1 (i := 15) (q := (yX3_goOn, _)) rfl rfl
theorem sl_X3_hearOfLife : Cond.selects RX3 yX3_hearOfLife yX3_hearOfLife ∈ gw := gp2 (i := 0) (q := (yX3_hearOfLife, _)) rfl rfl
theorem sl_X3_handle : Cond.selects RX3 yX3_handle yX3_handle ∈ gw := gp2 (i := 1) (q := (yX3_handle, _)) rfl rfl
theorem sl_X8_goOn : Cond.selects RX8 yX8_goOn yX8_goOn ∈ gw := gp2 (i := 2) (q := (yX8_goOn, _)) rfl rfl
theorem sl_X8_leaveChildren : Cond.selects RX8 yX8_leaveChildren yX8_leaveChildren ∈ gw := gp2 (i := 3) (q := (yX8_leaveChildren, _)) rfl rfl
theorem sl_X8_collect : Cond.selects RX8 yX8_collect yX8_collect ∈ gw := gp2 (i := 4) (q := (yX8_collect, _)) rfl rfl
theorem sl_X8_fork : Cond.selects RX8 yX8_fork yX8_fork ∈ gw := gp2 (i := 5) (q := (yX8_fork, _)) rfl rfl
theorem sl_X8_waitFor : Cond.selects RX8 yX8_waitFor yX8_waitFor ∈ gw := gp2 (i := 6) (q := (yX8_waitFor, _)) rfl rfl
theorem sl_X8_end : Cond.selects RX8 yX8_end yX8_end ∈ gw := gp2 (i := 7) (q := (yX8_end, _)) rfl rfl
theorem sl_X8_await : Cond.selects RX8 yX8_await yX8_await ∈ gw := gp2 (i := 8) (q := (yX8_await, _)) rfl rfl
theorem sl_X11_turn : Cond.selects RX11 yX11_turn yX11_turn ∈ gw := gp2 (i := 10) (q := (yX11_turn, _)) rfl rfl
theorem sl_X11_lives : Cond.selects RX11 yX11_lives yX11_lives ∈ gw := gp2 (i := 11) (q := (yX11_lives, _)) rfl rfl
theorem sl_X11_keeper : Cond.selects RX11 yX11_keeper yX11_keeper ∈ gw := gp2 (i := 12) (q := (yX11_keeper, _)) rfl rfl
theorem sl_X11_sendsAgain : Cond.selects RX11 yX11_sendsAgain yX11_sendsAgain ∈ gw := gp2 (i := 13) (q := (yX11_sendsAgain, _)) rfl rfl
theorem sl_X11_sends : Cond.selects RX11 yX11_sends yX11_sends ∈ gw := gp2 (i := 14) (q := (yX11_sends, _)) rfl rfl
theorem sl_X11_send : Cond.selects RX11 yX11_send yX11_send ∈ gw := gp2 (i := 15) (q := (yX11_send, _)) rfl rfl
theorem sl_X11_starts : Cond.selects RX11 yX11_starts yX11_starts ∈ gw := gp3 (i := 0) (q := (yX11_starts, _)) rfl rfl
theorem sl_X11_drafts : Cond.selects RX11 yX11_drafts yX11_drafts ∈ gw := gp3 (i := 1) (q := (yX11_drafts, _)) rfl rfl
theorem sl_X11_takeOut : Cond.selects RX11 yX11_takeOut yX11_takeOut ∈ gw := gp3 (i := 2) (q := (yX11_takeOut, _)) rfl rfl
theorem sl_X11_drop : Cond.selects RX11 yX11_drop yX11_drop ∈ gw := gp3 (i := 3) (q := (yX11_drop, _)) rfl rfl
theorem sl_X11_crashesNow : Cond.selects RX11 yX11_crashesNow yX11_crashesNow ∈ gw := gp3 (i := 4) (q := (yX11_crashesNow, _)) rfl rfl
theorem sl_X11_driver : Cond.selects RX11 yX11_driver yX11_driver ∈ gw := gp3 (i := 5) (q := (yX11_driver, _)) rfl rfl
theorem sl_X11_field : Cond.selects RX11 yX11_field yX11_field ∈ gw := gp3 (i := 6) (q := (yX11_field, _)) rfl rfl
theorem sl_X11_works : Cond.selects RX11 yX11_works yX11_works ∈ gw := gp3 (i := 7) (q := (yX11_works, _)) rfl rfl
theorem sl_X11_files : Cond.selects RX11 yX11_files yX11_files ∈ gw := gp3 (i := 8) (q := (yX11_files, _)) rfl rfl
theorem sl_X11_goesOn : Cond.selects RX11 yX11_goesOn yX11_goesOn ∈ gw := gp3 (i := 9) (q := (yX11_goesOn, _)) rfl rfl
theorem sl_X11_tells : Cond.selects RX11 yX11_tells yX11_tells ∈ gw := gp3 (i := 10) (q := (yX11_tells, _)) rfl rfl
theorem sl_X11_asksDriver : Cond.selects RX11 yX11_asksDriver yX11_asksDriver ∈ gw := gp3 (i := 11) (q := (yX11_asksDriver, _)) rfl rfl
theorem sl_X11_copies : Cond.selects RX11 yX11_copies yX11_copies ∈ gw := gp3 (i := 12) (q := (yX11_copies, _)) rfl rfl
theorem sl_X11_closesAll : Cond.selects RX11 yX11_closesAll yX11_closesAll ∈ gw := gp3 (i := 13) (q := (yX11_closesAll, _)) rfl rfl
theorem sl_X11_begins : Cond.selects RX11 yX11_begins yX11_begins ∈ gw := gp3 (i := 14) (q := (yX11_begins, _)) rfl rfl
theorem sl_X11_opens : Cond.selects RX11 yX11_opens yX11_opens ∈ gw := gp3 (i := 15) (q := (yX11_opens, _)) rfl rfl
theorem sl_X11_filesThere : Cond.selects RX11 yX11_filesThere yX11_filesThere ∈ gw := gp4 (i := 0) (q := (yX11_filesThere, _)) rfl rfl
theorem sl_X11_removes : Cond.selects RX11 yX11_removes yX11_removes ∈ gw := gp4 (i := 1) (q := (yX11_removes, _)) rfl rfl
theorem sl_X11_reads : Cond.selects RX11 yX11_reads yX11_reads ∈ gw := gp4 (i := 2) (q := (yX11_reads, _)) rfl rfl
theorem sl_X11_writes : Cond.selects RX11 yX11_writes yX11_writes ∈ gw := gp4 (i := 3) (q := (yX11_writes, _)) rfl rfl
theorem sl_X11_processes : Cond.selects RX11 yX11_processes yX11_processes ∈ gw := gp4 (i := 4) (q := (yX11_processes, _)) rfl rfl
theorem sl_X11_forks : Cond.selects RX11 yX11_forks yX11_forks ∈ gw := gp4 (i := 5) (q := (yX11_forks, _)) rfl rfl
theorem sl_X11_holds : Cond.selects RX11 yX11_holds yX11_holds ∈ gw := gp4 (i := 6) (q := (yX11_holds, _)) rfl rfl
theorem sl_X11_ends : Cond.selects RX11 yX11_ends yX11_ends ∈ gw := gp4 (i := 7) (q := (yX11_ends, _)) rfl rfl
theorem sl_X11_waitsFor : Cond.selects RX11 yX11_waitsFor yX11_waitsFor ∈ gw := gp4 (i := 8) (q := (yX11_waitsFor, _)) rfl rfl
theorem sl_X11_freed : Cond.selects RX11 yX11_freed yX11_freed ∈ gw := gp4 (i := 9) (q := (yX11_freed, _)) rfl rfl
theorem sl_X11_done : Cond.selects RX11 yX11_done yX11_done ∈ gw := gp4 (i := 10) (q := (yX11_done, _)) rfl rfl
theorem sl_X11_ofUser : Cond.selects RX11 yX11_ofUser yX11_ofUser ∈ gw := gp4 (i := 11) (q := (yX11_ofUser, _)) rfl rfl
def ab_FL (own : String) (idx ci k : Nat) : Prop := ∃ (C : String) (T : u_T) (N : Nat), vwCl[ci]? = some (C, T, N) ∧ k < N ∧ Cond.fieldLink own idx (T k).1 (T k).2.1 (T k).2.2.1 ∈ gw
theorem fl_X6_9 : ab_FL RX6 9 6 0 := ⟨_, _, _, rfl, by decide, gm1 (i := 41) rfl rfl⟩
theorem fl_X3_86 : ab_FL RX3 86 6 0 := ⟨_, _, _, rfl, by decide, gm1 (i := 42) rfl rfl⟩
theorem fl_X2_65 : ab_FL RX2 65 6 0 := ⟨_, _, _, rfl, by decide, gm1 (i := 43) rfl rfl⟩
theorem fl_X6_22 : ab_FL RX6 22 6 1 := ⟨_, _, _, rfl, by decide, gm1 (i := 44) rfl rfl⟩
theorem fl_X3_58 : ab_FL RX3 58 6 1 := ⟨_, _, _, rfl, by decide, gm1 (i := 45) rfl rfl⟩
theorem fl_X0_25 : ab_FL RX0 25 6 1 := ⟨_, _, _, rfl, by decide, gm1 (i := 46) rfl rfl⟩
theorem fl_X8_49 : ab_FL RX8 49 6 1 := ⟨_, _, _, rfl, by decide, gm1 (i := 47) rfl rfl⟩
theorem fl_X1_56 : ab_FL RX1 56 6 1 := ⟨_, _, _, rfl, by decide, gm1 (i := 48) rfl rfl⟩
theorem fl_X10_166 : ab_FL RX10 166 6 1 := ⟨_, _, _, rfl, by decide, gm1 (i := 49) rfl rfl⟩
theorem fl_X6_25 : ab_FL RX6 25 6 2 := ⟨_, _, _, rfl, by decide, gm1 (i := 50) rfl rfl⟩
theorem fl_X5_31 : ab_FL RX5 31 6 2 := ⟨_, _, _, rfl, by decide, gm1 (i := 51) rfl rfl⟩
theorem fl_X3_53 : ab_FL RX3 53 6 2 := ⟨_, _, _, rfl, by decide, gm1 (i := 52) rfl rfl⟩
theorem fl_X2_54 : ab_FL RX2 54 6 2 := ⟨_, _, _, rfl, by decide, gm1 (i := 53) rfl rfl⟩
theorem fl_X9_38 : ab_FL RX9 38 6 2 := ⟨_, _, _, rfl, by decide, gm1 (i := 54) rfl rfl⟩
theorem fl_X0_22 : ab_FL RX0 22 6 2 := ⟨_, _, _, rfl, by decide, gm1 (i := 55) rfl rfl⟩
theorem fl_X8_58 : ab_FL RX8 58 6 2 := ⟨_, _, _, rfl, by decide, gm1 (i := 56) rfl rfl⟩
theorem fl_X10_171 : ab_FL RX10 171 6 2 := ⟨_, _, _, rfl, by decide, gm1 (i := 57) rfl rfl⟩
theorem fl_X6_28 : ab_FL RX6 28 6 3 := ⟨_, _, _, rfl, by decide, gm1 (i := 58) rfl rfl⟩
theorem fl_X3_61 : ab_FL RX3 61 6 3 := ⟨_, _, _, rfl, by decide, gm1 (i := 59) rfl rfl⟩
theorem fl_X2_59 : ab_FL RX2 59 6 3 := ⟨_, _, _, rfl, by decide, gm1 (i := 60) rfl rfl⟩
theorem fl_X9_44 : ab_FL RX9 44 6 3 := ⟨_, _, _, rfl, by decide, gm1 (i := 61) rfl rfl⟩
theorem fl_X8_69 : ab_FL RX8 69 6 3 := ⟨_, _, _, rfl, by decide, gm1 (i := 62) rfl rfl⟩
theorem fl_X10_174 : ab_FL RX10 174 6 3 := ⟨_, _, _, rfl, by decide, gm1 (i := 63) rfl rfl⟩
theorem fl_X6_31 : ab_FL RX6 31 6 4 := ⟨_, _, _, rfl, by decide, gm1 (i := 64) rfl rfl⟩
theorem fl_X3_79 : ab_FL RX3 79 6 4 := ⟨_, _, _, rfl, by decide, gm1 (i := 65) rfl rfl⟩
theorem fl_X10_177 : ab_FL RX10 177 6 4 := ⟨_, _, _, rfl, by decide, gm1 (i := 66) rfl rfl⟩
theorem fl_X6_34 : ab_FL RX6 34 6 5 := ⟨_, _, _, rfl, by decide, gm1 (i := 67) rfl rfl⟩
theorem fl_X10_180 : ab_FL RX10 180 6 5 := ⟨_, _, _, rfl, by decide, gm1 (i := 68) rfl rfl⟩
theorem fl_X6_15 : ab_FL RX6 15 6 6 := ⟨_, _, _, rfl, by decide, gm1 (i := 69) rfl rfl⟩
theorem fl_X1_66 : ab_FL RX1 66 6 6 := ⟨_, _, _, rfl, by decide, gm1 (i := 70) rfl rfl⟩
theorem fl_X3_189 : ab_FL RX3 189 6 6 := ⟨_, _, _, rfl, by decide, gm1 (i := 71) rfl rfl⟩
theorem fl_X6_19 : ab_FL RX6 19 6 7 := ⟨_, _, _, rfl, by decide, gm1 (i := 72) rfl rfl⟩
theorem fl_X1_53 : ab_FL RX1 53 6 7 := ⟨_, _, _, rfl, by decide, gm1 (i := 73) rfl rfl⟩
theorem fl_X0_11 : ab_FL RX0 11 0 0 := ⟨_, _, _, rfl, by decide, gm1 (i := 100) rfl rfl⟩
theorem fl_X0_18 : ab_FL RX0 18 0 1 := ⟨_, _, _, rfl, by decide, gm1 (i := 101) rfl rfl⟩
theorem fl_X1_80 : ab_FL RX1 80 0 1 := ⟨_, _, _, rfl, by decide, gm1 (i := 102) rfl rfl⟩
theorem fl_X10_157 : ab_FL RX10 157 0 1 := ⟨_, _, _, rfl, by decide, gm1 (i := 103) rfl rfl⟩
theorem fl_X1_11 : ab_FL RX1 11 1 0 := ⟨_, _, _, rfl, by decide, gm1 (i := 109) rfl rfl⟩
theorem fl_X3_33 : ab_FL RX3 33 1 0 := ⟨_, _, _, rfl, by decide, gm1 (i := 110) rfl rfl⟩
theorem fl_X2_26 : ab_FL RX2 26 1 0 := ⟨_, _, _, rfl, by decide, gm1 (i := 111) rfl rfl⟩
theorem fl_X5_21 : ab_FL RX5 21 1 0 := ⟨_, _, _, rfl, by decide, gm1 (i := 112) rfl rfl⟩
theorem fl_X9_26 : ab_FL RX9 26 1 0 := ⟨_, _, _, rfl, by decide, gm1 (i := 113) rfl rfl⟩
theorem fl_X8_29 : ab_FL RX8 29 1 0 := ⟨_, _, _, rfl, by decide, gm1 (i := 114) rfl rfl⟩
theorem fl_X10_153 : ab_FL RX10 153 1 0 := ⟨_, _, _, rfl, by decide, gm1 (i := 115) rfl rfl⟩
theorem fl_X1_17 : ab_FL RX1 17 1 1 := ⟨_, _, _, rfl, by decide, gm1 (i := 116) rfl rfl⟩
theorem fl_X5_9 : ab_FL RX5 9 1 1 := ⟨_, _, _, rfl, by decide, gm1 (i := 117) rfl rfl⟩
theorem fl_X10_65 : ab_FL RX10 65 1 1 := ⟨_, _, _, rfl, by decide, gm1 (i := 118) rfl rfl⟩
theorem fl_X8_85 : ab_FL RX8 85 1 1 := ⟨_, _, _, rfl, by decide, gm1 (i := 119) rfl rfl⟩
theorem fl_X1_23 : ab_FL RX1 23 1 2 := ⟨_, _, _, rfl, by decide, gm1 (i := 120) rfl rfl⟩
theorem fl_X1_28 : ab_FL RX1 28 1 3 := ⟨_, _, _, rfl, by decide, gm1 (i := 121) rfl rfl⟩
theorem fl_X1_32 : ab_FL RX1 32 1 4 := ⟨_, _, _, rfl, by decide, gm1 (i := 122) rfl rfl⟩
theorem fl_X5_58 : ab_FL RX5 58 1 4 := ⟨_, _, _, rfl, by decide, gm1 (i := 123) rfl rfl⟩
theorem fl_X10_183 : ab_FL RX10 183 1 4 := ⟨_, _, _, rfl, by decide, gm1 (i := 124) rfl rfl⟩
theorem fl_X1_63 : ab_FL RX1 63 1 5 := ⟨_, _, _, rfl, by decide, gm1 (i := 125) rfl rfl⟩
theorem fl_X10_196 : ab_FL RX10 196 1 5 := ⟨_, _, _, rfl, by decide, gm1 (i := 126) rfl rfl⟩
theorem fl_X1_77 : ab_FL RX1 77 1 6 := ⟨_, _, _, rfl, by decide, gm1 (i := 127) rfl rfl⟩
theorem fl_X10_208 : ab_FL RX10 208 1 6 := ⟨_, _, _, rfl, by decide, gm1 (i := 128) rfl rfl⟩
theorem fl_X5_41 : ab_FL RX5 41 5 0 := ⟨_, _, _, rfl, by decide, gm1 (i := 150) rfl rfl⟩
theorem fl_X10_211 : ab_FL RX10 211 5 0 := ⟨_, _, _, rfl, by decide, gm1 (i := 151) rfl rfl⟩
theorem fl_X5_52 : ab_FL RX5 52 5 1 := ⟨_, _, _, rfl, by decide, gm1 (i := 152) rfl rfl⟩
theorem fl_X10_238 : ab_FL RX10 238 5 1 := ⟨_, _, _, rfl, by decide, gm1 (i := 153) rfl rfl⟩
theorem fl_X5_37 : ab_FL RX5 37 5 2 := ⟨_, _, _, rfl, by decide, gm1 (i := 154) rfl rfl⟩
theorem fl_X2_9 : ab_FL RX2 9 2 0 := ⟨_, _, _, rfl, by decide, gm1 (i := 168) rfl rfl⟩
theorem fl_X10_150 : ab_FL RX10 150 2 0 := ⟨_, _, _, rfl, by decide, gm1 (i := 169) rfl rfl⟩
theorem fl_X2_15 : ab_FL RX2 15 2 1 := ⟨_, _, _, rfl, by decide, gm1 (i := 170) rfl rfl⟩
theorem fl_X2_22 : ab_FL RX2 22 2 2 := ⟨_, _, _, rfl, by decide, gm1 (i := 171) rfl rfl⟩
theorem fl_X10_86 : ab_FL RX10 86 2 2 := ⟨_, _, _, rfl, by decide, gm1 (i := 172) rfl rfl⟩
theorem fl_X2_66 : ab_FL RX2 66 2 3 := ⟨_, _, _, rfl, by decide, gm1 (i := 173) rfl rfl⟩
theorem fl_X10_186 : ab_FL RX10 186 2 3 := ⟨_, _, _, rfl, by decide, gm1 (i := 174) rfl rfl⟩
theorem fl_X2_18 : ab_FL RX2 18 2 4 := ⟨_, _, _, rfl, by decide, gm1 (i := 175) rfl rfl⟩
theorem fl_X10_189 : ab_FL RX10 189 2 4 := ⟨_, _, _, rfl, by decide, gm1 (i := 176) rfl rfl⟩
theorem fl_X2_62 : ab_FL RX2 62 2 5 := ⟨_, _, _, rfl, by decide, gm1 (i := 177) rfl rfl⟩
theorem fl_X4_9 : ab_FL RX4 9 4 0 := ⟨_, _, _, rfl, by decide, gm1 (i := 203) rfl rfl⟩
theorem fl_X4_15 : ab_FL RX4 15 4 1 := ⟨_, _, _, rfl, by decide, gm1 (i := 204) rfl rfl⟩
theorem fl_X4_19 : ab_FL RX4 19 4 2 := ⟨_, _, _, rfl, by decide, gm1 (i := 205) rfl rfl⟩
theorem fl_X4_22 : ab_FL RX4 22 4 3 := ⟨_, _, _, rfl, by decide, gm1 (i := 206) rfl rfl⟩
theorem fl_X3_128 : ab_FL RX3 128 4 4 := ⟨_, _, _, rfl, by decide, gm1 (i := 207) rfl rfl⟩
theorem fl_X4_37 : ab_FL RX4 37 4 4 := ⟨_, _, _, rfl, by decide, gm1 (i := 208) rfl rfl⟩
theorem fl_X10_199 : ab_FL RX10 199 4 4 := ⟨_, _, _, rfl, by decide, gm1 (i := 209) rfl rfl⟩
theorem fl_X4_25 : ab_FL RX4 25 4 5 := ⟨_, _, _, rfl, by decide, gm1 (i := 210) rfl rfl⟩
theorem fl_X3_167 : ab_FL RX3 167 4 5 := ⟨_, _, _, rfl, by decide, gm1 (i := 211) rfl rfl⟩
theorem fl_X10_201 : ab_FL RX10 201 4 5 := ⟨_, _, _, rfl, by decide, gm1 (i := 212) rfl rfl⟩
theorem fl_X7_9 : ab_FL RX7 9 7 0 := ⟨_, _, _, rfl, by decide, gm1 (i := 232) rfl rfl⟩
theorem fl_X7_15 : ab_FL RX7 15 7 1 := ⟨_, _, _, rfl, by decide, gm1 (i := 233) rfl rfl⟩
theorem fl_X3_12 : ab_FL RX3 12 3 0 := ⟨_, _, _, rfl, by decide, gm1 (i := 239) rfl rfl⟩
theorem fl_X10_135 : ab_FL RX10 135 3 0 := ⟨_, _, _, rfl, by decide, gm2 (i := 0) rfl rfl⟩
theorem fl_X3_21 : ab_FL RX3 21 3 1 := ⟨_, _, _, rfl, by decide, gm2 (i := 1) rfl rfl⟩
theorem fl_X10_117 : ab_FL RX10 117 3 1 := ⟨_, _, _, rfl, by decide, gm2 (i := 2) rfl rfl⟩
theorem fl_X3_39 : ab_FL RX3 39 3 2 := ⟨_, _, _, rfl, by decide, gm2 (i := 3) rfl rfl⟩
theorem fl_X10_192 : ab_FL RX10 192 3 2 := ⟨_, _, _, rfl, by decide, gm2 (i := 4) rfl rfl⟩
theorem fl_X3_25 : ab_FL RX3 25 3 3 := ⟨_, _, _, rfl, by decide, gm2 (i := 5) rfl rfl⟩
theorem fl_X3_29 : ab_FL RX3 29 3 4 := ⟨_, _, _, rfl, by decide, gm2 (i := 6) rfl rfl⟩
theorem fl_X3_176 : ab_FL RX3 176 3 5 := ⟨_, _, _, rfl, by decide, gm2 (i := 7) rfl rfl⟩
theorem fl_X3_170 : ab_FL RX3 170 3 6 := ⟨_, _, _, rfl, by decide, gm2 (i := 8) rfl rfl⟩
theorem fl_X3_173 : ab_FL RX3 173 3 7 := ⟨_, _, _, rfl, by decide, gm2 (i := 9) rfl rfl⟩
theorem fl_X3_179 : ab_FL RX3 179 3 8 := ⟨_, _, _, rfl, by decide, gm2 (i := 10) rfl rfl⟩
theorem fl_X3_182 : ab_FL RX3 182 3 9 := ⟨_, _, _, rfl, by decide, gm2 (i := 11) rfl rfl⟩
theorem fl_X3_151 : ab_FL RX3 151 3 10 := ⟨_, _, _, rfl, by decide, gm2 (i := 12) rfl rfl⟩
theorem fl_X8_9 : ab_FL RX8 9 8 0 := ⟨_, _, _, rfl, by decide, gm2 (i := 42) rfl rfl⟩
theorem fl_X8_15 : ab_FL RX8 15 8 1 := ⟨_, _, _, rfl, by decide, gm2 (i := 43) rfl rfl⟩
theorem fl_X8_18 : ab_FL RX8 18 8 2 := ⟨_, _, _, rfl, by decide, gm2 (i := 44) rfl rfl⟩
theorem fl_X8_22 : ab_FL RX8 22 8 3 := ⟨_, _, _, rfl, by decide, gm2 (i := 45) rfl rfl⟩
theorem fl_X8_35 : ab_FL RX8 35 8 4 := ⟨_, _, _, rfl, by decide, gm2 (i := 46) rfl rfl⟩
theorem fl_X10_195 : ab_FL RX10 195 8 4 := ⟨_, _, _, rfl, by decide, gm2 (i := 47) rfl rfl⟩
theorem fl_X8_108 : ab_FL RX8 108 8 5 := ⟨_, _, _, rfl, by decide, gm2 (i := 48) rfl rfl⟩
theorem fl_X8_111 : ab_FL RX8 111 8 6 := ⟨_, _, _, rfl, by decide, gm2 (i := 49) rfl rfl⟩
theorem fl_X8_114 : ab_FL RX8 114 8 7 := ⟨_, _, _, rfl, by decide, gm2 (i := 50) rfl rfl⟩
theorem fl_X9_9 : ab_FL RX9 9 9 0 := ⟨_, _, _, rfl, by decide, gm2 (i := 74) rfl rfl⟩
theorem fl_X9_15 : ab_FL RX9 15 9 1 := ⟨_, _, _, rfl, by decide, gm2 (i := 75) rfl rfl⟩
theorem fl_X10_103 : ab_FL RX10 103 9 1 := ⟨_, _, _, rfl, by decide, gm2 (i := 76) rfl rfl⟩
theorem fl_X9_19 : ab_FL RX9 19 9 2 := ⟨_, _, _, rfl, by decide, gm2 (i := 77) rfl rfl⟩
theorem fl_X10_107 : ab_FL RX10 107 9 2 := ⟨_, _, _, rfl, by decide, gm2 (i := 78) rfl rfl⟩
theorem fl_X10_12 : ab_FL RX10 12 10 0 := ⟨_, _, _, rfl, by decide, gm2 (i := 86) rfl rfl⟩
theorem fl_X10_19 : ab_FL RX10 19 10 1 := ⟨_, _, _, rfl, by decide, gm2 (i := 87) rfl rfl⟩
theorem fl_X10_26 : ab_FL RX10 26 10 2 := ⟨_, _, _, rfl, by decide, gm2 (i := 88) rfl rfl⟩
theorem fl_X10_33 : ab_FL RX10 33 10 3 := ⟨_, _, _, rfl, by decide, gm2 (i := 89) rfl rfl⟩
theorem fl_X10_40 : ab_FL RX10 40 10 4 := ⟨_, _, _, rfl, by decide, gm2 (i := 90) rfl rfl⟩
theorem fl_X10_47 : ab_FL RX10 47 10 5 := ⟨_, _, _, rfl, by decide, gm2 (i := 91) rfl rfl⟩
theorem fl_X10_51 : ab_FL RX10 51 10 6 := ⟨_, _, _, rfl, by decide, gm2 (i := 92) rfl rfl⟩
theorem fl_X10_55 : ab_FL RX10 55 10 7 := ⟨_, _, _, rfl, by decide, gm2 (i := 93) rfl rfl⟩
theorem fl_X10_58 : ab_FL RX10 58 10 8 := ⟨_, _, _, rfl, by decide, gm2 (i := 94) rfl rfl⟩
theorem fl_X11_1 : ab_FL RX11 1 11 0 := ⟨_, _, _, rfl, by decide, gm4 (i := 94) rfl rfl⟩
theorem fl_X11_41 : ab_FL RX11 41 11 1 := ⟨_, _, _, rfl, by decide, gm4 (i := 95) rfl rfl⟩
theorem fl_X11_38 : ab_FL RX11 38 11 2 := ⟨_, _, _, rfl, by decide, gm4 (i := 96) rfl rfl⟩
theorem fl_X11_7 : ab_FL RX11 7 11 3 := ⟨_, _, _, rfl, by decide, gm4 (i := 97) rfl rfl⟩
theorem fl_X11_51 : ab_FL RX11 51 11 4 := ⟨_, _, _, rfl, by decide, gm4 (i := 98) rfl rfl⟩
theorem fl_X11_54 : ab_FL RX11 54 11 5 := ⟨_, _, _, rfl, by decide, gm4 (i := 99) rfl rfl⟩
theorem fl_X11_26 : ab_FL RX11 26 11 6 := ⟨_, _, _, rfl, by decide, gm4 (i := 100) rfl rfl⟩
theorem fl_X11_44 : ab_FL RX11 44 11 7 := ⟨_, _, _, rfl, by decide, gm4 (i := 101) rfl rfl⟩
theorem fl_X11_61 : ab_FL RX11 61 11 8 := ⟨_, _, _, rfl, by decide, gm4 (i := 102) rfl rfl⟩
theorem fl_X11_19 : ab_FL RX11 19 11 9 := ⟨_, _, _, rfl, by decide, gm4 (i := 103) rfl rfl⟩
theorem fl_X11_73 : ab_FL RX11 73 11 10 := ⟨_, _, _, rfl, by decide, gm4 (i := 104) rfl rfl⟩
theorem fl_X11_77 : ab_FL RX11 77 11 11 := ⟨_, _, _, rfl, by decide, gm4 (i := 105) rfl rfl⟩
theorem fl_X11_80 : ab_FL RX11 80 11 12 := ⟨_, _, _, rfl, by decide, gm4 (i := 106) rfl rfl⟩
theorem fl_X11_83 : ab_FL RX11 83 11 13 := ⟨_, _, _, rfl, by decide, gm4 (i := 107) rfl rfl⟩
theorem fl_X11_86 : ab_FL RX11 86 11 14 := ⟨_, _, _, rfl, by decide, gm4 (i := 108) rfl rfl⟩
theorem fl_X11_89 : ab_FL RX11 89 11 15 := ⟨_, _, _, rfl, by decide, gm4 (i := 109) rfl rfl⟩
theorem fl_X11_92 : ab_FL RX11 92 11 16 := ⟨_, _, _, rfl, by decide, gm4 (i := 110) rfl rfl⟩
theorem fl_X11_95 : ab_FL RX11 95 11 17 := ⟨_, _, _, rfl, by decide, gm4 (i := 111) rfl rfl⟩
theorem fl_X11_98 : ab_FL RX11 98 11 18 := ⟨_, _, _, rfl, by decide, gm4 (i := 112) rfl rfl⟩
theorem fl_X11_101 : ab_FL RX11 101 11 19 := ⟨_, _, _, rfl, by decide, gm4 (i := 113) rfl rfl⟩
theorem fl_X11_104 : ab_FL RX11 104 11 20 := ⟨_, _, _, rfl, by decide, gm4 (i := 114) rfl rfl⟩
theorem fl_X11_107 : ab_FL RX11 107 11 21 := ⟨_, _, _, rfl, by decide, gm4 (i := 115) rfl rfl⟩
theorem fl_X11_110 : ab_FL RX11 110 11 22 := ⟨_, _, _, rfl, by decide, gm4 (i := 116) rfl rfl⟩
theorem fl_X11_15 : ab_FL RX11 15 11 23 := ⟨_, _, _, rfl, by decide, gm4 (i := 117) rfl rfl⟩
theorem fl_X11_119 : ab_FL RX11 119 11 24 := ⟨_, _, _, rfl, by decide, gm4 (i := 118) rfl rfl⟩
theorem fl_X11_35 : ab_FL RX11 35 11 25 := ⟨_, _, _, rfl, by decide, gm4 (i := 119) rfl rfl⟩
theorem fl_X11_125 : ab_FL RX11 125 11 26 := ⟨_, _, _, rfl, by decide, gm4 (i := 120) rfl rfl⟩
theorem fl_X11_122 : ab_FL RX11 122 11 27 := ⟨_, _, _, rfl, by decide, gm4 (i := 121) rfl rfl⟩
theorem fl_X11_163 : ab_FL RX11 163 11 28 := ⟨_, _, _, rfl, by decide, gm4 (i := 122) rfl rfl⟩
theorem fl_X11_113 : ab_FL RX11 113 11 29 := ⟨_, _, _, rfl, by decide, gm4 (i := 123) rfl rfl⟩
theorem fl_X11_131 : ab_FL RX11 131 11 30 := ⟨_, _, _, rfl, by decide, gm4 (i := 124) rfl rfl⟩
theorem fl_X11_134 : ab_FL RX11 134 11 31 := ⟨_, _, _, rfl, by decide, gm4 (i := 125) rfl rfl⟩
theorem fl_X11_128 : ab_FL RX11 128 11 32 := ⟨_, _, _, rfl, by decide, gm4 (i := 126) rfl rfl⟩
theorem fl_X11_146 : ab_FL RX11 146 11 33 := ⟨_, _, _, rfl, by decide, gm4 (i := 127) rfl rfl⟩
theorem fl_X11_32 : ab_FL RX11 32 11 34 := ⟨_, _, _, rfl, by decide, gm4 (i := 128) rfl rfl⟩
theorem fl_X11_166 : ab_FL RX11 166 11 35 := ⟨_, _, _, rfl, by decide, gm4 (i := 129) rfl rfl⟩
theorem fl_X11_219 : ab_FL RX11 219 11 36 := ⟨_, _, _, rfl, by decide, gm4 (i := 130) rfl rfl⟩
theorem fl_X11_213 : ab_FL RX11 213 11 37 := ⟨_, _, _, rfl, by decide, gm4 (i := 131) rfl rfl⟩
theorem fl_X11_216 : ab_FL RX11 216 11 38 := ⟨_, _, _, rfl, by decide, gm4 (i := 132) rfl rfl⟩
theorem fl_X11_222 : ab_FL RX11 222 11 39 := ⟨_, _, _, rfl, by decide, gm4 (i := 133) rfl rfl⟩
theorem fl_X11_186 : ab_FL RX11 186 11 40 := ⟨_, _, _, rfl, by decide, gm4 (i := 134) rfl rfl⟩
theorem fl_X11_189 : ab_FL RX11 189 11 41 := ⟨_, _, _, rfl, by decide, gm4 (i := 135) rfl rfl⟩
theorem fl_X11_116 : ab_FL RX11 116 11 42 := ⟨_, _, _, rfl, by decide, gm4 (i := 136) rfl rfl⟩
theorem fl_X11_225 : ab_FL RX11 225 11 43 := ⟨_, _, _, rfl, by decide, gm4 (i := 137) rfl rfl⟩
theorem fl_X11_248 : ab_FL RX11 248 11 44 := ⟨_, _, _, rfl, by decide, gm4 (i := 138) rfl rfl⟩
theorem fl_X11_251 : ab_FL RX11 251 11 45 := ⟨_, _, _, rfl, by decide, gm4 (i := 139) rfl rfl⟩
theorem fl_X11_254 : ab_FL RX11 254 11 46 := ⟨_, _, _, rfl, by decide, gm4 (i := 140) rfl rfl⟩
theorem fl_X11_263 : ab_FL RX11 263 11 47 := ⟨_, _, _, rfl, by decide, gm4 (i := 141) rfl rfl⟩
theorem fl_X11_260 : ab_FL RX11 260 11 48 := ⟨_, _, _, rfl, by decide, gm4 (i := 142) rfl rfl⟩
theorem ly_X0_0 : u_lay RX0 TX0 0 ∈ gw := gm1 (i := 104) rfl rfl
theorem ly_X0_1 : u_lay RX0 TX0 1 ∈ gw := gm1 (i := 106) rfl rfl
theorem us_X0 : ∀ w ∈ u_ws RX0 TX0 2, w ∈ gw := by
  intro w h
  obtain ⟨k, hk, rfl⟩ := List.mem_map.mp h
  have hk : k < 2 := List.mem_range.mp hk
  match k, hk with
  | 0, _ => exact ly_X0_0
  | 1, _ => exact ly_X0_1
  | k + 2, hk => exact absurd hk (by omega)
theorem ly_X1_0 : u_lay RX1 TX1 0 ∈ gw := gm1 (i := 129) rfl rfl
theorem ly_X1_1 : u_lay RX1 TX1 1 ∈ gw := gm1 (i := 131) rfl rfl
theorem ly_X1_2 : u_lay RX1 TX1 2 ∈ gw := gm1 (i := 133) rfl rfl
theorem ly_X1_3 : u_lay RX1 TX1 3 ∈ gw := gm1 (i := 135) rfl rfl
theorem ly_X1_4 : u_lay RX1 TX1 4 ∈ gw := gm1 (i := 137) rfl rfl
theorem ly_X1_5 : u_lay RX1 TX1 5 ∈ gw := gm1 (i := 139) rfl rfl
theorem ly_X1_6 : u_lay RX1 TX1 6 ∈ gw := gm1 (i := 141) rfl rfl
theorem us_X1 : ∀ w ∈ u_ws RX1 TX1 7, w ∈ gw := by
  intro w h
  obtain ⟨k, hk, rfl⟩ := List.mem_map.mp h
  have hk : k < 7 := List.mem_range.mp hk
  match k, hk with
  | 0, _ => exact ly_X1_0
  | 1, _ => exact ly_X1_1
  | 2, _ => exact ly_X1_2
  | 3, _ => exact ly_X1_3
  | 4, _ => exact ly_X1_4
  | 5, _ => exact ly_X1_5
  | 6, _ => exact ly_X1_6
  | k + 7, hk => exact absurd hk (by omega)
theorem ly_X2_0 : u_lay RX2 TX2 0 ∈ gw := gm1 (i := 178) rfl rfl
theorem ly_X2_1 : u_lay RX2 TX2 1 ∈ gw := gm1 (i := 180) rfl rfl
theorem ly_X2_2 : u_lay RX2 TX2 2 ∈ gw := gm1 (i := 182) rfl rfl
theorem ly_X2_3 : u_lay RX2 TX2 3 ∈ gw := gm1 (i := 184) rfl rfl
theorem ly_X2_4 : u_lay RX2 TX2 4 ∈ gw := gm1 (i := 186) rfl rfl
theorem ly_X2_5 : u_lay RX2 TX2 5 ∈ gw := gm1 (i := 188) rfl rfl
theorem us_X2 : ∀ w ∈ u_ws RX2 TX2 6, w ∈ gw := by
  intro w h
  obtain ⟨k, hk, rfl⟩ := List.mem_map.mp h
  have hk : k < 6 := List.mem_range.mp hk
  match k, hk with
  | 0, _ => exact ly_X2_0
  | 1, _ => exact ly_X2_1
  | 2, _ => exact ly_X2_2
  | 3, _ => exact ly_X2_3
  | 4, _ => exact ly_X2_4
  | 5, _ => exact ly_X2_5
  | k + 6, hk => exact absurd hk (by omega)
theorem ly_X3_0 : u_lay RX3 TX3 0 ∈ gw := gm2 (i := 13) rfl rfl
theorem ly_X3_1 : u_lay RX3 TX3 1 ∈ gw := gm2 (i := 15) rfl rfl
theorem ly_X3_2 : u_lay RX3 TX3 2 ∈ gw := gm2 (i := 17) rfl rfl
theorem ly_X3_3 : u_lay RX3 TX3 3 ∈ gw := gm2 (i := 19) rfl rfl
theorem ly_X3_4 : u_lay RX3 TX3 4 ∈ gw := gm2 (i := 21) rfl rfl
theorem ly_X3_5 : u_lay RX3 TX3 5 ∈ gw := gm2 (i := 23) rfl rfl
theorem ly_X3_6 : u_lay RX3 TX3 6 ∈ gw := gm2 (i := 25) rfl rfl
theorem ly_X3_7 : u_lay RX3 TX3 7 ∈ gw := gm2 (i := 27) rfl rfl
theorem ly_X3_8 : u_lay RX3 TX3 8 ∈ gw := gm2 (i := 29) rfl rfl
theorem ly_X3_9 : u_lay RX3 TX3 9 ∈ gw := gm2 (i := 31) rfl rfl
theorem ly_X3_10 : u_lay RX3 TX3 10 ∈ gw := gm2 (i := 33) rfl rfl
theorem us_X3 : ∀ w ∈ u_ws RX3 TX3 11, w ∈ gw := by
  intro w h
  obtain ⟨k, hk, rfl⟩ := List.mem_map.mp h
  have hk : k < 11 := List.mem_range.mp hk
  match k, hk with
  | 0, _ => exact ly_X3_0
  | 1, _ => exact ly_X3_1
  | 2, _ => exact ly_X3_2
  | 3, _ => exact ly_X3_3
  | 4, _ => exact ly_X3_4
  | 5, _ => exact ly_X3_5
  | 6, _ => exact ly_X3_6
  | 7, _ => exact ly_X3_7
  | 8, _ => exact ly_X3_8
  | 9, _ => exact ly_X3_9
  | 10, _ => exact ly_X3_10
  | k + 11, hk => exact absurd hk (by omega)
theorem ly_X4_0 : u_lay RX4 TX4 0 ∈ gw := gm1 (i := 213) rfl rfl
theorem ly_X4_1 : u_lay RX4 TX4 1 ∈ gw := gm1 (i := 215) rfl rfl
theorem ly_X4_2 : u_lay RX4 TX4 2 ∈ gw := gm1 (i := 217) rfl rfl
theorem ly_X4_3 : u_lay RX4 TX4 3 ∈ gw := gm1 (i := 219) rfl rfl
theorem ly_X4_4 : u_lay RX4 TX4 4 ∈ gw := gm1 (i := 221) rfl rfl
theorem ly_X4_5 : u_lay RX4 TX4 5 ∈ gw := gm1 (i := 223) rfl rfl
theorem us_X4 : ∀ w ∈ u_ws RX4 TX4 6, w ∈ gw := by
  intro w h
  obtain ⟨k, hk, rfl⟩ := List.mem_map.mp h
  have hk : k < 6 := List.mem_range.mp hk
  match k, hk with
  | 0, _ => exact ly_X4_0
  | 1, _ => exact ly_X4_1
  | 2, _ => exact ly_X4_2
  | 3, _ => exact ly_X4_3
  | 4, _ => exact ly_X4_4
  | 5, _ => exact ly_X4_5
  | k + 6, hk => exact absurd hk (by omega)
theorem ly_X5_0 : u_lay RX5 TX5 0 ∈ gw := gm1 (i := 155) rfl rfl
theorem ly_X5_1 : u_lay RX5 TX5 1 ∈ gw := gm1 (i := 157) rfl rfl
theorem ly_X5_2 : u_lay RX5 TX5 2 ∈ gw := gm1 (i := 159) rfl rfl
theorem us_X5 : ∀ w ∈ u_ws RX5 TX5 3, w ∈ gw := by
  intro w h
  obtain ⟨k, hk, rfl⟩ := List.mem_map.mp h
  have hk : k < 3 := List.mem_range.mp hk
  match k, hk with
  | 0, _ => exact ly_X5_0
  | 1, _ => exact ly_X5_1
  | 2, _ => exact ly_X5_2
  | k + 3, hk => exact absurd hk (by omega)
theorem ly_X6_0 : u_lay RX6 TX6 0 ∈ gw := gm1 (i := 74) rfl rfl
theorem ly_X6_1 : u_lay RX6 TX6 1 ∈ gw := gm1 (i := 76) rfl rfl
theorem ly_X6_2 : u_lay RX6 TX6 2 ∈ gw := gm1 (i := 78) rfl rfl
theorem ly_X6_3 : u_lay RX6 TX6 3 ∈ gw := gm1 (i := 80) rfl rfl
theorem ly_X6_4 : u_lay RX6 TX6 4 ∈ gw := gm1 (i := 82) rfl rfl
theorem ly_X6_5 : u_lay RX6 TX6 5 ∈ gw := gm1 (i := 84) rfl rfl
theorem ly_X6_6 : u_lay RX6 TX6 6 ∈ gw := gm1 (i := 86) rfl rfl
theorem ly_X6_7 : u_lay RX6 TX6 7 ∈ gw := gm1 (i := 88) rfl rfl
theorem us_X6 : ∀ w ∈ u_ws RX6 TX6 8, w ∈ gw := by
  intro w h
  obtain ⟨k, hk, rfl⟩ := List.mem_map.mp h
  have hk : k < 8 := List.mem_range.mp hk
  match k, hk with
  | 0, _ => exact ly_X6_0
  | 1, _ => exact ly_X6_1
  | 2, _ => exact ly_X6_2
  | 3, _ => exact ly_X6_3
  | 4, _ => exact ly_X6_4
  | 5, _ => exact ly_X6_5
  | 6, _ => exact ly_X6_6
  | 7, _ => exact ly_X6_7
  | k + 8, hk => exact absurd hk (by omega)
theorem ly_X7_0 : u_lay RX7 TX7 0 ∈ gw := gm1 (i := 234) rfl rfl
theorem ly_X7_1 : u_lay RX7 TX7 1 ∈ gw := gm1 (i := 236) rfl rfl
theorem us_X7 : ∀ w ∈ u_ws RX7 TX7 2, w ∈ gw := by
  intro w h
  obtain ⟨k, hk, rfl⟩ := List.mem_map.mp h
  have hk : k < 2 := List.mem_range.mp hk
  match k, hk with
  | 0, _ => exact ly_X7_0
  | 1, _ => exact ly_X7_1
  | k + 2, hk => exact absurd hk (by omega)
theorem ly_X8_0 : u_lay RX8 TX8 0 ∈ gw := gm2 (i := 51) rfl rfl
theorem ly_X8_1 : u_lay RX8 TX8 1 ∈ gw := gm2 (i := 53) rfl rfl
theorem ly_X8_2 : u_lay RX8 TX8 2 ∈ gw := gm2 (i := 55) rfl rfl
theorem ly_X8_3 : u_lay RX8 TX8 3 ∈ gw := gm2 (i := 57) rfl rfl
theorem ly_X8_4 : u_lay RX8 TX8 4 ∈ gw := gm2 (i := 59) rfl rfl
theorem ly_X8_5 : u_lay RX8 TX8 5 ∈ gw := gm2 (i := 61) rfl rfl
theorem ly_X8_6 : u_lay RX8 TX8 6 ∈ gw := gm2 (i := 63) rfl rfl
theorem ly_X8_7 : u_lay RX8 TX8 7 ∈ gw := gm2 (i := 65) rfl rfl
theorem us_X8 : ∀ w ∈ u_ws RX8 TX8 8, w ∈ gw := by
  intro w h
  obtain ⟨k, hk, rfl⟩ := List.mem_map.mp h
  have hk : k < 8 := List.mem_range.mp hk
  match k, hk with
  | 0, _ => exact ly_X8_0
  | 1, _ => exact ly_X8_1
  | 2, _ => exact ly_X8_2
  | 3, _ => exact ly_X8_3
  | 4, _ => exact ly_X8_4
  | 5, _ => exact ly_X8_5
  | 6, _ => exact ly_X8_6
  | 7, _ => exact ly_X8_7
  | k + 8, hk => exact absurd hk (by omega)
theorem ly_X9_0 : u_lay RX9 TX9 0 ∈ gw := gm2 (i := 79) rfl rfl
theorem ly_X9_1 : u_lay RX9 TX9 1 ∈ gw := gm2 (i := 81) rfl rfl
theorem ly_X9_2 : u_lay RX9 TX9 2 ∈ gw := gm2 (i := 83) rfl rfl
theorem us_X9 : ∀ w ∈ u_ws RX9 TX9 3, w ∈ gw := by
  intro w h
  obtain ⟨k, hk, rfl⟩ := List.mem_map.mp h
  have hk : k < 3 := List.mem_range.mp hk
  match k, hk with
  | 0, _ => exact ly_X9_0
  | 1, _ => exact ly_X9_1
  | 2, _ => exact ly_X9_2
  | k + 3, hk => exact absurd hk (by omega)
theorem ly_X10_0 : u_lay RX10 TX10 0 ∈ gw := gm2 (i := 95) rfl rfl
theorem ly_X10_1 : u_lay RX10 TX10 1 ∈ gw := gm2 (i := 97) rfl rfl
theorem ly_X10_2 : u_lay RX10 TX10 2 ∈ gw := gm2 (i := 99) rfl rfl
theorem ly_X10_3 : u_lay RX10 TX10 3 ∈ gw := gm2 (i := 101) rfl rfl
theorem ly_X10_4 : u_lay RX10 TX10 4 ∈ gw := gm2 (i := 103) rfl rfl
theorem ly_X10_5 : u_lay RX10 TX10 5 ∈ gw := gm2 (i := 105) rfl rfl
theorem ly_X10_6 : u_lay RX10 TX10 6 ∈ gw := gm2 (i := 107) rfl rfl
theorem ly_X10_7 : u_lay RX10 TX10 7 ∈ gw := gm2 (i := 109) rfl rfl
theorem ly_X10_8 : u_lay RX10 TX10 8 ∈ gw := gm2 (i := 111) rfl rfl
theorem us_X10 : ∀ w ∈ u_ws RX10 TX10 9, w ∈ gw := by
  intro w h
  obtain ⟨k, hk, rfl⟩ := List.mem_map.mp h
  have hk : k < 9 := List.mem_range.mp hk
  match k, hk with
  | 0, _ => exact ly_X10_0
  | 1, _ => exact ly_X10_1
  | 2, _ => exact ly_X10_2
  | 3, _ => exact ly_X10_3
  | 4, _ => exact ly_X10_4
  | 5, _ => exact ly_X10_5
  | 6, _ => exact ly_X10_6
  | 7, _ => exact ly_X10_7
  | 8, _ => exact ly_X10_8
  | k + 9, hk => exact absurd hk (by omega)
theorem ly_X11_0 : u_lay RX11 TX11 0 ∈ gw := gm4 (i := 143) rfl rfl
theorem ly_X11_1 : u_lay RX11 TX11 1 ∈ gw := gm4 (i := 145) rfl rfl
theorem ly_X11_2 : u_lay RX11 TX11 2 ∈ gw := gm4 (i := 147) rfl rfl
theorem ly_X11_3 : u_lay RX11 TX11 3 ∈ gw := gm4 (i := 149) rfl rfl
theorem ly_X11_4 : u_lay RX11 TX11 4 ∈ gw := gm4 (i := 151) rfl rfl
theorem ly_X11_5 : u_lay RX11 TX11 5 ∈ gw := gm4 (i := 153) rfl rfl
theorem ly_X11_6 : u_lay RX11 TX11 6 ∈ gw := gm4 (i := 155) rfl rfl
theorem ly_X11_7 : u_lay RX11 TX11 7 ∈ gw := gm4 (i := 157) rfl rfl
theorem ly_X11_8 : u_lay RX11 TX11 8 ∈ gw := gm4 (i := 159) rfl rfl
theorem ly_X11_9 : u_lay RX11 TX11 9 ∈ gw := gm4 (i := 161) rfl rfl
theorem ly_X11_10 : u_lay RX11 TX11 10 ∈ gw := gm4 (i := 163) rfl rfl
theorem ly_X11_11 : u_lay RX11 TX11 11 ∈ gw := gm4 (i := 165) rfl rfl
theorem ly_X11_12 : u_lay RX11 TX11 12 ∈ gw := gm4 (i := 167) rfl rfl
theorem ly_X11_13 : u_lay RX11 TX11 13 ∈ gw := gm4 (i := 169) rfl rfl
theorem ly_X11_14 : u_lay RX11 TX11 14 ∈ gw := gm4 (i := 171) rfl rfl
theorem ly_X11_15 : u_lay RX11 TX11 15 ∈ gw := gm4 (i := 173) rfl rfl
theorem ly_X11_16 : u_lay RX11 TX11 16 ∈ gw := gm4 (i := 175) rfl rfl
theorem ly_X11_17 : u_lay RX11 TX11 17 ∈ gw := gm4 (i := 177) rfl rfl
theorem ly_X11_18 : u_lay RX11 TX11 18 ∈ gw := gm4 (i := 179) rfl rfl
theorem ly_X11_19 : u_lay RX11 TX11 19 ∈ gw := gm4 (i := 181) rfl rfl
theorem ly_X11_20 : u_lay RX11 TX11 20 ∈ gw := gm4 (i := 183) rfl rfl
theorem ly_X11_21 : u_lay RX11 TX11 21 ∈ gw := gm4 (i := 185) rfl rfl
theorem ly_X11_22 : u_lay RX11 TX11 22 ∈ gw := gm4 (i := 187) rfl rfl
theorem ly_X11_23 : u_lay RX11 TX11 23 ∈ gw := gm4 (i := 189) rfl rfl
theorem ly_X11_24 : u_lay RX11 TX11 24 ∈ gw := gm4 (i := 191) rfl rfl
theorem ly_X11_25 : u_lay RX11 TX11 25 ∈ gw := gm4 (i := 193) rfl rfl
theorem ly_X11_26 : u_lay RX11 TX11 26 ∈ gw := gm4 (i := 195) rfl rfl
theorem ly_X11_27 : u_lay RX11 TX11 27 ∈ gw := gm4 (i := 197) rfl rfl
theorem ly_X11_28 : u_lay RX11 TX11 28 ∈ gw := gm4 (i := 199) rfl rfl
theorem ly_X11_29 : u_lay RX11 TX11 29 ∈ gw := gm4 (i := 201) rfl rfl
theorem ly_X11_30 : u_lay RX11 TX11 30 ∈ gw := gm4 (i := 203) rfl rfl
theorem ly_X11_31 : u_lay RX11 TX11 31 ∈ gw := gm4 (i := 205) rfl rfl
theorem ly_X11_32 : u_lay RX11 TX11 32 ∈ gw := gm4 (i := 207) rfl rfl
theorem ly_X11_33 : u_lay RX11 TX11 33 ∈ gw := gm4 (i := 209) rfl rfl
theorem ly_X11_34 : u_lay RX11 TX11 34 ∈ gw := gm4 (i := 211) rfl rfl
theorem ly_X11_35 : u_lay RX11 TX11 35 ∈ gw := gm4 (i := 213) rfl rfl
theorem ly_X11_36 : u_lay RX11 TX11 36 ∈ gw := gm4 (i := 215) rfl rfl
theorem ly_X11_37 : u_lay RX11 TX11 37 ∈ gw := gm4 (i := 217) rfl rfl
theorem ly_X11_38 : u_lay RX11 TX11 38 ∈ gw := gm4 (i := 219) rfl rfl
theorem ly_X11_39 : u_lay RX11 TX11 39 ∈ gw := gm4 (i := 221) rfl rfl
theorem ly_X11_40 : u_lay RX11 TX11 40 ∈ gw := gm4 (i := 223) rfl rfl
theorem ly_X11_41 : u_lay RX11 TX11 41 ∈ gw := gm4 (i := 225) rfl rfl
theorem ly_X11_42 : u_lay RX11 TX11 42 ∈ gw := gm4 (i := 227) rfl rfl
theorem ly_X11_43 : u_lay RX11 TX11 43 ∈ gw := gm4 (i := 229) rfl rfl
theorem ly_X11_44 : u_lay RX11 TX11 44 ∈ gw := gm4 (i := 231) rfl rfl
theorem ly_X11_45 : u_lay RX11 TX11 45 ∈ gw := gm4 (i := 233) rfl rfl
theorem ly_X11_46 : u_lay RX11 TX11 46 ∈ gw := gm4 (i := 235) rfl rfl
theorem ly_X11_47 : u_lay RX11 TX11 47 ∈ gw := gm4 (i := 237) rfl rfl
theorem ly_X11_48 : u_lay RX11 TX11 48 ∈ gw := gm4 (i := 239) rfl rfl
theorem us_X11 : ∀ w ∈ u_ws RX11 TX11 49, w ∈ gw := by
  intro w h
  obtain ⟨k, hk, rfl⟩ := List.mem_map.mp h
  have hk : k < 49 := List.mem_range.mp hk
  match k, hk with
  | 0, _ => exact ly_X11_0
  | 1, _ => exact ly_X11_1
  | 2, _ => exact ly_X11_2
  | 3, _ => exact ly_X11_3
  | 4, _ => exact ly_X11_4
  | 5, _ => exact ly_X11_5
  | 6, _ => exact ly_X11_6
  | 7, _ => exact ly_X11_7
  | 8, _ => exact ly_X11_8
  | 9, _ => exact ly_X11_9
  | 10, _ => exact ly_X11_10
  | 11, _ => exact ly_X11_11
  | 12, _ => exact ly_X11_12
  | 13, _ => exact ly_X11_13
  | 14, _ => exact ly_X11_14
  | 15, _ => exact ly_X11_15
  | 16, _ => exact ly_X11_16
  | 17, _ => exact ly_X11_17
  | 18, _ => exact ly_X11_18
  | 19, _ => exact ly_X11_19
  | 20, _ => exact ly_X11_20
  | 21, _ => exact ly_X11_21
  | 22, _ => exact ly_X11_22
  | 23, _ => exact ly_X11_23
  | 24, _ => exact ly_X11_24
  | 25, _ => exact ly_X11_25
  | 26, _ => exact ly_X11_26
  | 27, _ => exact ly_X11_27
  | 28, _ => exact ly_X11_28
  | 29, _ => exact ly_X11_29
  | 30, _ => exact ly_X11_30
  | 31, _ => exact ly_X11_31
  | 32, _ => exact ly_X11_32
  | 33, _ => exact ly_X11_33
  | 34, _ => exact ly_X11_34
  | 35, _ => exact ly_X11_35
  | 36, _ => exact ly_X11_36
  | 37, _ => exact ly_X11_37
  | 38, _ => exact ly_X11_38
  | 39, _ => exact ly_X11_39
  | 40, _ => exact ly_X11_40
  | 41, _ => exact ly_X11_41
  | 42, _ => exact ly_X11_42
  | 43, _ => exact ly_X11_43
  | 44, _ => exact ly_X11_44
  | 45, _ => exact ly_X11_45
  | 46, _ => exact ly_X11_46
  | 47, _ => exact ly_X11_47
  | 48, _ => exact ly_X11_48
  | k + 49, hk => exact absurd hk (by omega)
def ab_ty (ci : Nat) : Nat → FieldType := match ci with
  | 0 => tyX0
  | 1 => tyX1
  | 2 => tyX2
  | 3 => tyX3
  | 4 => tyX4
  | 5 => tyX5
  | 6 => tyX6
  | 7 => tyX7
  | 8 => tyX8
  | 9 => tyX9
  | 10 => tyX10
  | 11 => tyX11
  | _ => fun _ => .int
theorem ab_cls {ci : Nat} {C : String} {T : u_T} {N : Nat} (h : vwCl[ci]? = some (C, T, N)) : (∀ w ∈ u_ws C T N, w ∈ gw) ∧ (∀ k, k < N → parseFieldDescriptor (T k).2.2.1 = some (ab_ty ci k)) ∧ (∀ a, a < N → ∀ b, b < N → a ≠ b → (T a).2.1 ≠ (T b).2.1) ∧ Cond.instantiable C N ∈ gw ∧ Cond.initialized C ∈ gw := by
  match ci, h with
  | 0, h => cases h; exact ⟨us_X0, tyX0_ok, nmX0, is_X0, in_X0⟩
  | 1, h => cases h; exact ⟨us_X1, tyX1_ok, nmX1, is_X1, in_X1⟩
  | 2, h => cases h; exact ⟨us_X2, tyX2_ok, nmX2, is_X2, in_X2⟩
  | 3, h => cases h; exact ⟨us_X3, tyX3_ok, nmX3, is_X3, in_X3⟩
  | 4, h => cases h; exact ⟨us_X4, tyX4_ok, nmX4, is_X4, in_X4⟩
  | 5, h => cases h; exact ⟨us_X5, tyX5_ok, nmX5, is_X5, in_X5⟩
  | 6, h => cases h; exact ⟨us_X6, tyX6_ok, nmX6, is_X6, in_X6⟩
  | 7, h => cases h; exact ⟨us_X7, tyX7_ok, nmX7, is_X7, in_X7⟩
  | 8, h => cases h; exact ⟨us_X8, tyX8_ok, nmX8, is_X8, in_X8⟩
  | 9, h => cases h; exact ⟨us_X9, tyX9_ok, nmX9, is_X9, in_X9⟩
  | 10, h => cases h; exact ⟨us_X10, tyX10_ok, nmX10, is_X10, in_X10⟩
  | 11, h => cases h; exact ⟨us_X11, tyX11_ok, nmX11, is_X11, in_X11⟩
  | k + 12, h => simp [vwCl] at h
def ab_nest : List Cond := [Cond.methodLinkNest RX1 27 yX6_init "ServerHouse", Cond.methodLinkNest RX0 17 yX6_init "ServerHouse", Cond.methodLinkNest RX10 18 yX5_init "ServerHouse", Cond.methodLinkNest RX10 25 yX2_init "ServerHouse", Cond.methodLinkNest RX10 32 yX3_init "ServerHouse", Cond.methodLinkNest RX3 11 yX4_init "ServerHouse", Cond.methodLinkNest RX10 46 yX9_init "ServerHouse", Cond.methodLinkNest RX9 22 yX10_isUser "ServerHouse", Cond.methodLinkNest RX1 37 yX10_isPart "ServerHouse", Cond.methodLinkNest RX7 18 yX10_isUser "ServerHouse", Cond.methodLinkNest RX8 55 yX10_isPart "ServerHouse", Cond.methodLinkNest RX8 25 yX10_isUser "ServerHouse"]
def ab_nestf : List Cond := [Cond.fieldLinkNest RX1 59 "ServerHouse" "ALLOWED" "[I" "ServerHouse"]
abbrev ab_M : Type := MethodName × ByteArray × Nat × Option FieldType
abbrev mX10_init : ab_M := (yX10_init, cX10_init, 1, (none : Option FieldType))
abbrev mX1_init : ab_M := (yX1_init, cX1_init, 2, (none : Option FieldType))
abbrev mX6_init : ab_M := (yX6_init, cX6_init, 1, (none : Option FieldType))
abbrev mX0_init : ab_M := (yX0_init, cX0_init, 2, (none : Option FieldType))
abbrev mX5_init : ab_M := (yX5_init, cX5_init, 1, (none : Option FieldType))
abbrev mX2_init : ab_M := (yX2_init, cX2_init, 1, (none : Option FieldType))
abbrev mX3_init : ab_M := (yX3_init, cX3_init, 1, (none : Option FieldType))
abbrev mX4_init : ab_M := (yX4_init, cX4_init, 1, (none : Option FieldType))
abbrev mX7_init : ab_M := (yX7_init, cX7_init, 2, (none : Option FieldType))
abbrev mX8_init : ab_M := (yX8_init, cX8_init, 2, (none : Option FieldType))
abbrev mX9_init : ab_M := (yX9_init, cX9_init, 1, (none : Option FieldType))
abbrev mX10_call : ab_M := (yX10_call, cX10_call, 5, (some FieldType.int))
abbrev mX10_isUser : ab_M := (yX10_isUser, cX10_isUser, 1, (some FieldType.boolean))
abbrev mX9_hasCall : ab_M := (yX9_hasCall, cX9_hasCall, 2, (some FieldType.boolean))
abbrev mX1_postLoose : ab_M := (yX1_postLoose, cX1_postLoose, 6, (some FieldType.int))
abbrev mX6_write : ab_M := (yX6_write, cX6_write, 5, (none : Option FieldType))
abbrev mX1_post : ab_M := (yX1_post, cX1_post, 4, (some FieldType.int))
abbrev mX10_isPart : ab_M := (yX10_isPart, cX10_isPart, 1, (some FieldType.boolean))
abbrev mX0_grow : ab_M := (yX0_grow, cX0_grow, 1, (some (FieldType.object "ServerHouse$Message")))
abbrev mX6_copy : ab_M := (yX6_copy, cX6_copy, 3, (none : Option FieldType))
abbrev mX9_setCall : ab_M := (yX9_setCall, cX9_setCall, 3, (none : Option FieldType))
abbrev mX10_steps : ab_M := (yX10_steps, cX10_steps, 3, (some FieldType.int))
abbrev mX10_giveTurn : ab_M := (yX10_giveTurn, cX10_giveTurn, 2, (none : Option FieldType))
abbrev mX1_sendHeld : ab_M := (yX1_sendHeld, cX1_sendHeld, 4, (some FieldType.boolean))
abbrev mX5_takeTurn : ab_M := (yX5_takeTurn, cX5_takeTurn, 3, (some FieldType.boolean))
abbrev mX5_watchDead : ab_M := (yX5_watchDead, cX5_watchDead, 2, (none : Option FieldType))
abbrev mX1_startDriver : ab_M := (yX1_startDriver, cX1_startDriver, 1, (none : Option FieldType))
abbrev mX1_send : ab_M := (yX1_send, cX1_send, 7, (none : Option FieldType))
abbrev mX1_draft : ab_M := (yX1_draft, cX1_draft, 5, (some (FieldType.object "ServerHouse$Message")))
abbrev mX0_take : ab_M := (yX0_take, cX0_take, 4, (some (FieldType.object "ServerHouse$Message")))
abbrev mX5_check : ab_M := (yX5_check, cX5_check, 2, (some FieldType.boolean))
abbrev mX10_breakDriver : ab_M := (yX10_breakDriver, cX10_breakDriver, 1, (none : Option FieldType))
abbrev mX1_end : ab_M := (yX1_end, cX1_end, 2, (none : Option FieldType))
abbrev mX2_loseAll : ab_M := (yX2_loseAll, cX2_loseAll, 1, (none : Option FieldType))
abbrev mX2_takeTurn : ab_M := (yX2_takeTurn, cX2_takeTurn, 3, (none : Option FieldType))
abbrev mX0_firstOf : ab_M := (yX0_firstOf, cX0_firstOf, 3, (some FieldType.int))
abbrev mX2_work : ab_M := (yX2_work, cX2_work, 4, (none : Option FieldType))
abbrev mX6_setNumbers : ab_M := (yX6_setNumbers, cX6_setNumbers, 5, (none : Option FieldType))
abbrev mX2_begin : ab_M := (yX2_begin, cX2_begin, 3, (none : Option FieldType))
abbrev mX3_takeTurn : ab_M := (yX3_takeTurn, cX3_takeTurn, 4, (none : Option FieldType))
abbrev mX0_firstFor : ab_M := (yX0_firstFor, cX0_firstFor, 3, (some FieldType.int))
abbrev mX3_openFile : ab_M := (yX3_openFile, cX3_openFile, 4, (some FieldType.int))
abbrev mX7_leastFree : ab_M := (yX7_leastFree, cX7_leastFree, 3, (some FieldType.int))
abbrev mX7_slot : ab_M := (yX7_slot, cX7_slot, 4, (some FieldType.int))
abbrev mX4_has : ab_M := (yX4_has, cX4_has, 2, (some FieldType.boolean))
abbrev mX4_make : ab_M := (yX4_make, cX4_make, 2, (none : Option FieldType))
abbrev mX7_set : ab_M := (yX7_set, cX7_set, 6, (none : Option FieldType))
abbrev mX3_removeFile : ab_M := (yX3_removeFile, cX3_removeFile, 2, (some FieldType.int))
abbrev mX7_anybodyHas : ab_M := (yX7_anybodyHas, cX7_anybodyHas, 3, (some FieldType.boolean))
abbrev mX4_discard : ab_M := (yX4_discard, cX4_discard, 3, (none : Option FieldType))
abbrev mX4_release : ab_M := (yX4_release, cX4_release, 2, (none : Option FieldType))
abbrev mX3_read : ab_M := (yX3_read, cX3_read, 6, (none : Option FieldType))
abbrev mX7_fileAt : ab_M := (yX7_fileAt, cX7_fileAt, 4, (some FieldType.int))
abbrev mX7_placeAt : ab_M := (yX7_placeAt, cX7_placeAt, 4, (some FieldType.int))
abbrev mX4_sizeOf : ab_M := (yX4_sizeOf, cX4_sizeOf, 2, (some FieldType.int))
abbrev mX3_takeInHand : ab_M := (yX3_takeInHand, cX3_takeInHand, 5, (none : Option FieldType))
abbrev mX4_blockOf : ab_M := (yX4_blockOf, cX4_blockOf, 4, (some FieldType.int))
abbrev mX3_ask : ab_M := (yX3_ask, cX3_ask, 4, (none : Option FieldType))
abbrev mX3_write : ab_M := (yX3_write, cX3_write, 9, (none : Option FieldType))
abbrev mX3_whyNotWrite : ab_M := (yX3_whyNotWrite, cX3_whyNotWrite, 3, (some FieldType.int))
abbrev mX4_needsBlock : ab_M := (yX4_needsBlock, cX4_needsBlock, 3, (some FieldType.boolean))
abbrev mX4_takeBlock : ab_M := (yX4_takeBlock, cX4_takeBlock, 4, (some FieldType.int))
abbrev mX3_goOn : ab_M := (yX3_goOn, cX3_goOn, 6, (none : Option FieldType))
abbrev mJ9_floorMod_7cf53 : ab_M := (yJ9_floorMod_7cf53, cJ9_floorMod_7cf53, 3, (some FieldType.int))
abbrev mX4_growOver : ab_M := (yX4_growOver, cX4_growOver, 3, (none : Option FieldType))
abbrev mX7_setPlace : ab_M := (yX7_setPlace, cX7_setPlace, 5, (none : Option FieldType))
abbrev mX3_hearOfLife : ab_M := (yX3_hearOfLife, cX3_hearOfLife, 3, (none : Option FieldType))
abbrev mX7_copyAll : ab_M := (yX7_copyAll, cX7_copyAll, 4, (none : Option FieldType))
abbrev mX7_closeAll : ab_M := (yX7_closeAll, cX7_closeAll, 3, (none : Option FieldType))
abbrev mX3_handle : ab_M := (yX3_handle, cX3_handle, 6, (some FieldType.int))
abbrev mX8_takeTurn : ab_M := (yX8_takeTurn, cX8_takeTurn, 6, (none : Option FieldType))
abbrev mX8_goOn : ab_M := (yX8_goOn, cX8_goOn, 3, (none : Option FieldType))
abbrev mX8_leaveChildren : ab_M := (yX8_leaveChildren, cX8_leaveChildren, 3, (none : Option FieldType))
abbrev mX8_collect : ab_M := (yX8_collect, cX8_collect, 2, (some FieldType.int))
abbrev mX8_fork : ab_M := (yX8_fork, cX8_fork, 4, (none : Option FieldType))
abbrev mX8_waitFor : ab_M := (yX8_waitFor, cX8_waitFor, 4, (none : Option FieldType))
abbrev mX8_end : ab_M := (yX8_end, cX8_end, 6, (none : Option FieldType))
abbrev mX0_dropFrom : ab_M := (yX0_dropFrom, cX0_dropFrom, 3, (none : Option FieldType))
abbrev mX8_await : ab_M := (yX8_await, cX8_await, 5, (none : Option FieldType))
abbrev mX9_takeTurn : ab_M := (yX9_takeTurn, cX9_takeTurn, 4, (none : Option FieldType))
abbrev mX10_until : ab_M := (yX10_until, cX10_until, 4, (some FieldType.int))
abbrev mX10_crash : ab_M := (yX10_crash, cX10_crash, 1, (some FieldType.boolean))
abbrev mX10_hang : ab_M := (yX10_hang, cX10_hang, 1, (some FieldType.boolean))
abbrev mX10_force : ab_M := (yX10_force, cX10_force, 3, (some FieldType.int))
abbrev mX10_descriptor : ab_M := (yX10_descriptor, cX10_descriptor, 4, (some FieldType.int))
abbrev mX10_file : ab_M := (yX10_file, cX10_file, 3, (some FieldType.int))
abbrev mX10_inbox : ab_M := (yX10_inbox, cX10_inbox, 2, (some FieldType.int))
abbrev mX10_message : ab_M := (yX10_message, cX10_message, 5, (some FieldType.int))
abbrev mX0_look : ab_M := (yX0_look, cX0_look, 2, (some (FieldType.object "ServerHouse$Message")))
abbrev mX10_count : ab_M := (yX10_count, cX10_count, 2, (some FieldType.int))
abbrev mX1_livingUsers : ab_M := (yX1_livingUsers, cX1_livingUsers, 3, (some FieldType.int))
abbrev mX10_user : ab_M := (yX10_user, cX10_user, 3, (some FieldType.int))
abbrev mX8_hasEnded : ab_M := (yX8_hasEnded, cX8_hasEnded, 2, (some FieldType.boolean))
abbrev mX8_parentOf : ab_M := (yX8_parentOf, cX8_parentOf, 2, (some FieldType.int))
abbrev mX8_codeOf : ab_M := (yX8_codeOf, cX8_codeOf, 2, (some FieldType.int))
abbrev mX7_howMany : ab_M := (yX7_howMany, cX7_howMany, 4, (some FieldType.int))
abbrev mX10_disk : ab_M := (yX10_disk, cX10_disk, 3, (some FieldType.int))
abbrev mX11_thrown : ab_M := (yX11_thrown, cX11_thrown, 1, (some FieldType.int))
abbrev mX11_init : ab_M := (yX11_init, cX11_init, 2, (none : Option FieldType))
abbrev mX11_steps : ab_M := (yX11_steps, cX11_steps, 3, (some FieldType.int))
abbrev mX11_turn : ab_M := (yX11_turn, cX11_turn, 2, (none : Option FieldType))
abbrev mX11_lives : ab_M := (yX11_lives, cX11_lives, 2, (some FieldType.boolean))
abbrev mX11_isUser : ab_M := (yX11_isUser, cX11_isUser, 1, (some FieldType.boolean))
abbrev mX11_keeper : ab_M := (yX11_keeper, cX11_keeper, 1, (none : Option FieldType))
abbrev mX11_sendsAgain : ab_M := (yX11_sendsAgain, cX11_sendsAgain, 3, (some FieldType.boolean))
abbrev mX11_sends : ab_M := (yX11_sends, cX11_sends, 4, (none : Option FieldType))
abbrev mX11_send : ab_M := (yX11_send, cX11_send, 6, (some FieldType.int))
abbrev mX11_isAllowed : ab_M := (yX11_isAllowed, cX11_isAllowed, 2, (some FieldType.boolean))
abbrev mX11_starts : ab_M := (yX11_starts, cX11_starts, 1, (none : Option FieldType))
abbrev mX11_drafts : ab_M := (yX11_drafts, cX11_drafts, 5, (none : Option FieldType))
abbrev mX11_takeOut : ab_M := (yX11_takeOut, cX11_takeOut, 5, (none : Option FieldType))
abbrev mX11_drop : ab_M := (yX11_drop, cX11_drop, 4, (none : Option FieldType))
abbrev mX11_crashesNow : ab_M := (yX11_crashesNow, cX11_crashesNow, 1, (none : Option FieldType))
abbrev mX11_driver : ab_M := (yX11_driver, cX11_driver, 2, (none : Option FieldType))
abbrev mX11_field : ab_M := (yX11_field, cX11_field, 4, (some FieldType.int))
abbrev mX11_works : ab_M := (yX11_works, cX11_works, 2, (none : Option FieldType))
abbrev mX11_files : ab_M := (yX11_files, cX11_files, 3, (none : Option FieldType))
abbrev mX11_goesOn : ab_M := (yX11_goesOn, cX11_goesOn, 4, (none : Option FieldType))
abbrev mX11_tells : ab_M := (yX11_tells, cX11_tells, 4, (none : Option FieldType))
abbrev mX11_asksDriver : ab_M := (yX11_asksDriver, cX11_asksDriver, 2, (none : Option FieldType))
abbrev mX11_copies : ab_M := (yX11_copies, cX11_copies, 4, (none : Option FieldType))
abbrev mX11_closesAll : ab_M := (yX11_closesAll, cX11_closesAll, 3, (none : Option FieldType))
abbrev mX11_begins : ab_M := (yX11_begins, cX11_begins, 8, (none : Option FieldType))
abbrev mX11_opens : ab_M := (yX11_opens, cX11_opens, 4, (some FieldType.int))
abbrev mX11_filesThere : ab_M := (yX11_filesThere, cX11_filesThere, 3, (some FieldType.int))
abbrev mX11_removes : ab_M := (yX11_removes, cX11_removes, 3, (some FieldType.int))
abbrev mX11_reads : ab_M := (yX11_reads, cX11_reads, 5, (none : Option FieldType))
abbrev mX11_writes : ab_M := (yX11_writes, cX11_writes, 8, (none : Option FieldType))
abbrev mX11_processes : ab_M := (yX11_processes, cX11_processes, 4, (none : Option FieldType))
abbrev mX11_forks : ab_M := (yX11_forks, cX11_forks, 3, (none : Option FieldType))
abbrev mX11_holds : ab_M := (yX11_holds, cX11_holds, 4, (none : Option FieldType))
abbrev mX11_ends : ab_M := (yX11_ends, cX11_ends, 7, (none : Option FieldType))
abbrev mX11_waitsFor : ab_M := (yX11_waitsFor, cX11_waitsFor, 6, (none : Option FieldType))
abbrev mX11_freed : ab_M := (yX11_freed, cX11_freed, 2, (some FieldType.int))
abbrev mX11_done : ab_M := (yX11_done, cX11_done, 3, (none : Option FieldType))
abbrev mX11_ofUser : ab_M := (yX11_ofUser, cX11_ofUser, 2, (none : Option FieldType))
abbrev mX11_until : ab_M := (yX11_until, cX11_until, 4, (some FieldType.int))
abbrev mX11_call : ab_M := (yX11_call, cX11_call, 5, (some FieldType.int))
abbrev mX11_crash : ab_M := (yX11_crash, cX11_crash, 1, (some FieldType.boolean))
abbrev mX11_hang : ab_M := (yX11_hang, cX11_hang, 1, (some FieldType.boolean))
abbrev mX11_force : ab_M := (yX11_force, cX11_force, 3, (some FieldType.int))
abbrev mX11_isPart : ab_M := (yX11_isPart, cX11_isPart, 1, (some FieldType.boolean))
abbrev mX11_user : ab_M := (yX11_user, cX11_user, 5, (some FieldType.int))
abbrev mX11_descriptor : ab_M := (yX11_descriptor, cX11_descriptor, 4, (some FieldType.int))
abbrev mX11_file : ab_M := (yX11_file, cX11_file, 3, (some FieldType.int))
abbrev mX11_disk : ab_M := (yX11_disk, cX11_disk, 3, (some FieldType.int))
abbrev mX11_inbox : ab_M := (yX11_inbox, cX11_inbox, 2, (some FieldType.int))
abbrev mX11_message : ab_M := (yX11_message, cX11_message, 4, (some FieldType.int))
abbrev mX11_count : ab_M := (yX11_count, cX11_count, 5, (some FieldType.int))
end
section
theorem dX0_init_0 : decode cX0_init 0 = .ok (.aload_n 0, 1) := by decide +kernel
theorem dX0_init_1 : decode cX0_init 1 = .ok (.invokespecial 3, 3) := by decide +kernel
theorem dX0_init_4 : decode cX0_init 4 = .ok (.aload_n 0, 1) := by decide +kernel
theorem dX0_init_5 : decode cX0_init 5 = .ok (.bipush 12, 2) := by decide +kernel
theorem dX0_init_7 : decode cX0_init 7 = .ok (.anewarray 9, 3) := by decide +kernel
theorem dX0_init_10 : decode cX0_init 10 = .ok (.putfield 11, 3) := by decide +kernel
theorem dX0_init_13 : decode cX0_init 13 = .ok (.iconst 0, 1) := by decide +kernel
theorem dX0_init_14 : decode cX0_init 14 = .ok (.istore_n 1, 1) := by decide +kernel
theorem dX0_init_15 : decode cX0_init 15 = .ok (.iload_n 1, 1) := by decide +kernel
theorem dX0_init_16 : decode cX0_init 16 = .ok (.bipush 12, 2) := by decide +kernel
theorem dX0_init_18 : decode cX0_init 18 = .ok (.if_icmp .ge 22, 3) := by decide +kernel
theorem dX0_init_21 : decode cX0_init 21 = .ok (.aload_n 0, 1) := by decide +kernel
theorem dX0_init_22 : decode cX0_init 22 = .ok (.getfield 11, 3) := by decide +kernel
theorem dX0_init_25 : decode cX0_init 25 = .ok (.iload_n 1, 1) := by decide +kernel
theorem dX0_init_26 : decode cX0_init 26 = .ok (.new 9, 3) := by decide +kernel
theorem dX0_init_29 : decode cX0_init 29 = .ok (.dup, 1) := by decide +kernel
theorem dX0_init_30 : decode cX0_init 30 = .ok (.invokespecial 17, 3) := by decide +kernel
theorem dX0_init_33 : decode cX0_init 33 = .ok (.aastore, 1) := by decide +kernel
theorem dX0_init_34 : decode cX0_init 34 = .ok (.iinc 1 1, 3) := by decide +kernel
theorem dX0_init_37 : decode cX0_init 37 = .ok (.goto (-22), 3) := by decide +kernel
theorem dX0_init_40 : decode cX0_init 40 = .ok (.aload_n 0, 1) := by decide +kernel
theorem dX0_init_41 : decode cX0_init 41 = .ok (.iconst 0, 1) := by decide +kernel
theorem dX0_init_42 : decode cX0_init 42 = .ok (.putfield 18, 3) := by decide +kernel
theorem dX0_init_45 : decode cX0_init 45 = .ok (.return_, 1) := by decide +kernel
theorem dX0_look_0 : decode cX0_look 0 = .ok (.iload_n 1, 1) := by decide +kernel
theorem dX0_look_1 : decode cX0_look 1 = .ok (.ifCond .lt 20, 3) := by decide +kernel
theorem dX0_look_4 : decode cX0_look 4 = .ok (.iload_n 1, 1) := by decide +kernel
theorem dX0_look_5 : decode cX0_look 5 = .ok (.aload_n 0, 1) := by decide +kernel
theorem dX0_look_6 : decode cX0_look 6 = .ok (.getfield 18, 3) := by decide +kernel
theorem dX0_look_9 : decode cX0_look 9 = .ok (.if_icmp .ge 12, 3) := by decide +kernel
theorem dX0_look_12 : decode cX0_look 12 = .ok (.aload_n 0, 1) := by decide +kernel
theorem dX0_look_13 : decode cX0_look 13 = .ok (.getfield 11, 3) := by decide +kernel
theorem dX0_look_16 : decode cX0_look 16 = .ok (.iload_n 1, 1) := by decide +kernel
theorem dX0_look_17 : decode cX0_look 17 = .ok (.aaload, 1) := by decide +kernel
theorem dX0_look_18 : decode cX0_look 18 = .ok (.goto 4, 3) := by decide +kernel
theorem dX0_look_21 : decode cX0_look 21 = .ok (.aconst_null, 1) := by decide +kernel
theorem dX0_look_22 : decode cX0_look 22 = .ok (.areturn, 1) := by decide +kernel
theorem dX0_grow_0 : decode cX0_grow 0 = .ok (.aload_n 0, 1) := by decide +kernel
theorem dX0_grow_1 : decode cX0_grow 1 = .ok (.getfield 18, 3) := by decide +kernel
theorem dX0_grow_4 : decode cX0_grow 4 = .ok (.bipush 12, 2) := by decide +kernel
theorem dX0_grow_6 : decode cX0_grow 6 = .ok (.if_icmp .lt 5, 3) := by decide +kernel
theorem dX0_grow_9 : decode cX0_grow 9 = .ok (.aconst_null, 1) := by decide +kernel
theorem dX0_grow_10 : decode cX0_grow 10 = .ok (.areturn, 1) := by decide +kernel
theorem dX0_grow_11 : decode cX0_grow 11 = .ok (.aload_n 0, 1) := by decide +kernel
theorem dX0_grow_12 : decode cX0_grow 12 = .ok (.dup, 1) := by decide +kernel
theorem dX0_grow_13 : decode cX0_grow 13 = .ok (.getfield 18, 3) := by decide +kernel
theorem dX0_grow_16 : decode cX0_grow 16 = .ok (.iconst 1, 1) := by decide +kernel
theorem dX0_grow_17 : decode cX0_grow 17 = .ok (.iadd, 1) := by decide +kernel
theorem dX0_grow_18 : decode cX0_grow 18 = .ok (.putfield 18, 3) := by decide +kernel
theorem dX0_grow_21 : decode cX0_grow 21 = .ok (.aload_n 0, 1) := by decide +kernel
theorem dX0_grow_22 : decode cX0_grow 22 = .ok (.getfield 11, 3) := by decide +kernel
theorem dX0_grow_25 : decode cX0_grow 25 = .ok (.aload_n 0, 1) := by decide +kernel
theorem dX0_grow_26 : decode cX0_grow 26 = .ok (.getfield 18, 3) := by decide +kernel
theorem dX0_grow_29 : decode cX0_grow 29 = .ok (.iconst 1, 1) := by decide +kernel
theorem dX0_grow_30 : decode cX0_grow 30 = .ok (.isub, 1) := by decide +kernel
theorem dX0_grow_31 : decode cX0_grow 31 = .ok (.aaload, 1) := by decide +kernel
theorem dX0_grow_32 : decode cX0_grow 32 = .ok (.areturn, 1) := by decide +kernel
theorem dX0_take_0 : decode cX0_take 0 = .ok (.iload_n 1, 1) := by decide +kernel
theorem dX0_take_1 : decode cX0_take 1 = .ok (.ifCond .lt 11, 3) := by decide +kernel
theorem dX0_take_4 : decode cX0_take 4 = .ok (.iload_n 1, 1) := by decide +kernel
theorem dX0_take_5 : decode cX0_take 5 = .ok (.aload_n 0, 1) := by decide +kernel
theorem dX0_take_6 : decode cX0_take 6 = .ok (.getfield 18, 3) := by decide +kernel
theorem dX0_take_9 : decode cX0_take 9 = .ok (.if_icmp .lt 5, 3) := by decide +kernel
theorem dX0_take_12 : decode cX0_take 12 = .ok (.aconst_null, 1) := by decide +kernel
theorem dX0_take_13 : decode cX0_take 13 = .ok (.areturn, 1) := by decide +kernel
theorem dX0_take_14 : decode cX0_take 14 = .ok (.aload_n 0, 1) := by decide +kernel
theorem dX0_take_15 : decode cX0_take 15 = .ok (.getfield 11, 3) := by decide +kernel
theorem dX0_take_18 : decode cX0_take 18 = .ok (.iload_n 1, 1) := by decide +kernel
theorem dX0_take_19 : decode cX0_take 19 = .ok (.aaload, 1) := by decide +kernel
theorem dX0_take_20 : decode cX0_take 20 = .ok (.astore_n 2, 1) := by decide +kernel
theorem dX0_take_21 : decode cX0_take 21 = .ok (.aload_n 0, 1) := by decide +kernel
theorem dX0_take_22 : decode cX0_take 22 = .ok (.dup, 1) := by decide +kernel
theorem dX0_take_23 : decode cX0_take 23 = .ok (.getfield 18, 3) := by decide +kernel
theorem dX0_take_26 : decode cX0_take 26 = .ok (.iconst 1, 1) := by decide +kernel
theorem dX0_take_27 : decode cX0_take 27 = .ok (.isub, 1) := by decide +kernel
theorem dX0_take_28 : decode cX0_take 28 = .ok (.putfield 18, 3) := by decide +kernel
theorem dX0_take_31 : decode cX0_take 31 = .ok (.iload_n 1, 1) := by decide +kernel
theorem dX0_take_32 : decode cX0_take 32 = .ok (.istore_n 3, 1) := by decide +kernel
theorem dX0_take_33 : decode cX0_take 33 = .ok (.iload_n 3, 1) := by decide +kernel
theorem dX0_take_34 : decode cX0_take 34 = .ok (.aload_n 0, 1) := by decide +kernel
theorem dX0_take_35 : decode cX0_take 35 = .ok (.getfield 18, 3) := by decide +kernel
theorem dX0_take_38 : decode cX0_take 38 = .ok (.if_icmp .ge 23, 3) := by decide +kernel
theorem dX0_take_41 : decode cX0_take 41 = .ok (.aload_n 0, 1) := by decide +kernel
theorem dX0_take_42 : decode cX0_take 42 = .ok (.getfield 11, 3) := by decide +kernel
theorem dX0_take_45 : decode cX0_take 45 = .ok (.iload_n 3, 1) := by decide +kernel
theorem dX0_take_46 : decode cX0_take 46 = .ok (.aload_n 0, 1) := by decide +kernel
theorem dX0_take_47 : decode cX0_take 47 = .ok (.getfield 11, 3) := by decide +kernel
theorem dX0_take_50 : decode cX0_take 50 = .ok (.iload_n 3, 1) := by decide +kernel
theorem dX0_take_51 : decode cX0_take 51 = .ok (.iconst 1, 1) := by decide +kernel
theorem dX0_take_52 : decode cX0_take 52 = .ok (.iadd, 1) := by decide +kernel
theorem dX0_take_53 : decode cX0_take 53 = .ok (.aaload, 1) := by decide +kernel
theorem dX0_take_54 : decode cX0_take 54 = .ok (.aastore, 1) := by decide +kernel
theorem dX0_take_55 : decode cX0_take 55 = .ok (.iinc 3 1, 3) := by decide +kernel
theorem dX0_take_58 : decode cX0_take 58 = .ok (.goto (-25), 3) := by decide +kernel
theorem dX0_take_61 : decode cX0_take 61 = .ok (.aload_n 0, 1) := by decide +kernel
theorem dX0_take_62 : decode cX0_take 62 = .ok (.getfield 11, 3) := by decide +kernel
theorem dX0_take_65 : decode cX0_take 65 = .ok (.aload_n 0, 1) := by decide +kernel
theorem dX0_take_66 : decode cX0_take 66 = .ok (.getfield 18, 3) := by decide +kernel
theorem dX0_take_69 : decode cX0_take 69 = .ok (.aload_n 2, 1) := by decide +kernel
theorem dX0_take_70 : decode cX0_take 70 = .ok (.aastore, 1) := by decide +kernel
theorem dX0_take_71 : decode cX0_take 71 = .ok (.aload_n 2, 1) := by decide +kernel
theorem dX0_take_72 : decode cX0_take 72 = .ok (.areturn, 1) := by decide +kernel
theorem dX0_firstFor_0 : decode cX0_firstFor 0 = .ok (.iconst 0, 1) := by decide +kernel
theorem dX0_firstFor_1 : decode cX0_firstFor 1 = .ok (.istore_n 2, 1) := by decide +kernel
theorem dX0_firstFor_2 : decode cX0_firstFor 2 = .ok (.iload_n 2, 1) := by decide +kernel
theorem dX0_firstFor_3 : decode cX0_firstFor 3 = .ok (.aload_n 0, 1) := by decide +kernel
theorem dX0_firstFor_4 : decode cX0_firstFor 4 = .ok (.getfield 18, 3) := by decide +kernel
theorem dX0_firstFor_7 : decode cX0_firstFor 7 = .ok (.if_icmp .ge 40, 3) := by decide +kernel
theorem dX0_firstFor_10 : decode cX0_firstFor 10 = .ok (.aload_n 0, 1) := by decide +kernel
theorem dX0_firstFor_11 : decode cX0_firstFor 11 = .ok (.getfield 11, 3) := by decide +kernel
theorem dX0_firstFor_14 : decode cX0_firstFor 14 = .ok (.iload_n 2, 1) := by decide +kernel
theorem dX0_firstFor_15 : decode cX0_firstFor 15 = .ok (.aaload, 1) := by decide +kernel
theorem dX0_firstFor_16 : decode cX0_firstFor 16 = .ok (.getfield 22, 3) := by decide +kernel
theorem dX0_firstFor_19 : decode cX0_firstFor 19 = .ok (.ifCond .eq 20, 3) := by decide +kernel
theorem dX0_firstFor_22 : decode cX0_firstFor 22 = .ok (.iload_n 1, 1) := by decide +kernel
theorem dX0_firstFor_23 : decode cX0_firstFor 23 = .ok (.aload_n 0, 1) := by decide +kernel
theorem dX0_firstFor_24 : decode cX0_firstFor 24 = .ok (.getfield 11, 3) := by decide +kernel
theorem dX0_firstFor_27 : decode cX0_firstFor 27 = .ok (.iload_n 2, 1) := by decide +kernel
theorem dX0_firstFor_28 : decode cX0_firstFor 28 = .ok (.aaload, 1) := by decide +kernel
theorem dX0_firstFor_29 : decode cX0_firstFor 29 = .ok (.getfield 25, 3) := by decide +kernel
theorem dX0_firstFor_32 : decode cX0_firstFor 32 = .ok (.ishr, 1) := by decide +kernel
theorem dX0_firstFor_33 : decode cX0_firstFor 33 = .ok (.iconst 1, 1) := by decide +kernel
theorem dX0_firstFor_34 : decode cX0_firstFor 34 = .ok (.iand, 1) := by decide +kernel
theorem dX0_firstFor_35 : decode cX0_firstFor 35 = .ok (.iconst 1, 1) := by decide +kernel
theorem dX0_firstFor_36 : decode cX0_firstFor 36 = .ok (.if_icmp .ne 5, 3) := by decide +kernel
theorem dX0_firstFor_39 : decode cX0_firstFor 39 = .ok (.iload_n 2, 1) := by decide +kernel
theorem dX0_firstFor_40 : decode cX0_firstFor 40 = .ok (.ireturn, 1) := by decide +kernel
theorem dX0_firstFor_41 : decode cX0_firstFor 41 = .ok (.iinc 2 1, 3) := by decide +kernel
theorem dX0_firstFor_44 : decode cX0_firstFor 44 = .ok (.goto (-42), 3) := by decide +kernel
theorem dX0_firstFor_47 : decode cX0_firstFor 47 = .ok (.iconst (-1), 1) := by decide +kernel
theorem dX0_firstFor_48 : decode cX0_firstFor 48 = .ok (.ireturn, 1) := by decide +kernel
theorem dX0_firstOf_0 : decode cX0_firstOf 0 = .ok (.iconst 0, 1) := by decide +kernel
theorem dX0_firstOf_1 : decode cX0_firstOf 1 = .ok (.istore_n 2, 1) := by decide +kernel
theorem dX0_firstOf_2 : decode cX0_firstOf 2 = .ok (.iload_n 2, 1) := by decide +kernel
theorem dX0_firstOf_3 : decode cX0_firstOf 3 = .ok (.aload_n 0, 1) := by decide +kernel
theorem dX0_firstOf_4 : decode cX0_firstOf 4 = .ok (.getfield 18, 3) := by decide +kernel
theorem dX0_firstOf_7 : decode cX0_firstOf 7 = .ok (.if_icmp .ge 24, 3) := by decide +kernel
theorem dX0_firstOf_10 : decode cX0_firstOf 10 = .ok (.aload_n 0, 1) := by decide +kernel
theorem dX0_firstOf_11 : decode cX0_firstOf 11 = .ok (.getfield 11, 3) := by decide +kernel
theorem dX0_firstOf_14 : decode cX0_firstOf 14 = .ok (.iload_n 2, 1) := by decide +kernel
theorem dX0_firstOf_15 : decode cX0_firstOf 15 = .ok (.aaload, 1) := by decide +kernel
theorem dX0_firstOf_16 : decode cX0_firstOf 16 = .ok (.getfield 22, 3) := by decide +kernel
theorem dX0_firstOf_19 : decode cX0_firstOf 19 = .ok (.iload_n 1, 1) := by decide +kernel
theorem dX0_firstOf_20 : decode cX0_firstOf 20 = .ok (.if_icmp .ne 5, 3) := by decide +kernel
theorem dX0_firstOf_23 : decode cX0_firstOf 23 = .ok (.iload_n 2, 1) := by decide +kernel
theorem dX0_firstOf_24 : decode cX0_firstOf 24 = .ok (.ireturn, 1) := by decide +kernel
theorem dX0_firstOf_25 : decode cX0_firstOf 25 = .ok (.iinc 2 1, 3) := by decide +kernel
theorem dX0_firstOf_28 : decode cX0_firstOf 28 = .ok (.goto (-26), 3) := by decide +kernel
theorem dX0_firstOf_31 : decode cX0_firstOf 31 = .ok (.iconst (-1), 1) := by decide +kernel
theorem dX0_firstOf_32 : decode cX0_firstOf 32 = .ok (.ireturn, 1) := by decide +kernel
theorem dX0_dropFrom_0 : decode cX0_dropFrom 0 = .ok (.aload_n 0, 1) := by decide +kernel
theorem dX0_dropFrom_1 : decode cX0_dropFrom 1 = .ok (.getfield 18, 3) := by decide +kernel
theorem dX0_dropFrom_4 : decode cX0_dropFrom 4 = .ok (.iconst 1, 1) := by decide +kernel
theorem dX0_dropFrom_5 : decode cX0_dropFrom 5 = .ok (.isub, 1) := by decide +kernel
theorem dX0_dropFrom_6 : decode cX0_dropFrom 6 = .ok (.istore_n 2, 1) := by decide +kernel
theorem dX0_dropFrom_7 : decode cX0_dropFrom 7 = .ok (.iload_n 2, 1) := by decide +kernel
theorem dX0_dropFrom_8 : decode cX0_dropFrom 8 = .ok (.ifCond .lt 28, 3) := by decide +kernel
theorem dX0_dropFrom_11 : decode cX0_dropFrom 11 = .ok (.aload_n 0, 1) := by decide +kernel
theorem dX0_dropFrom_12 : decode cX0_dropFrom 12 = .ok (.getfield 11, 3) := by decide +kernel
theorem dX0_dropFrom_15 : decode cX0_dropFrom 15 = .ok (.iload_n 2, 1) := by decide +kernel
theorem dX0_dropFrom_16 : decode cX0_dropFrom 16 = .ok (.aaload, 1) := by decide +kernel
theorem dX0_dropFrom_17 : decode cX0_dropFrom 17 = .ok (.getfield 25, 3) := by decide +kernel
theorem dX0_dropFrom_20 : decode cX0_dropFrom 20 = .ok (.iload_n 1, 1) := by decide +kernel
theorem dX0_dropFrom_21 : decode cX0_dropFrom 21 = .ok (.if_icmp .ne 9, 3) := by decide +kernel
theorem dX0_dropFrom_24 : decode cX0_dropFrom 24 = .ok (.aload_n 0, 1) := by decide +kernel
theorem dX0_dropFrom_25 : decode cX0_dropFrom 25 = .ok (.iload_n 2, 1) := by decide +kernel
theorem dX0_dropFrom_26 : decode cX0_dropFrom 26 = .ok (.invokevirtual 28, 3) := by decide +kernel
theorem dX0_dropFrom_29 : decode cX0_dropFrom 29 = .ok (.pop, 1) := by decide +kernel
theorem dX0_dropFrom_30 : decode cX0_dropFrom 30 = .ok (.iinc 2 (-1), 3) := by decide +kernel
theorem dX0_dropFrom_33 : decode cX0_dropFrom 33 = .ok (.goto (-26), 3) := by decide +kernel
theorem dX0_dropFrom_36 : decode cX0_dropFrom 36 = .ok (.return_, 1) := by decide +kernel
end
section
theorem dX1_init_0 : decode cX1_init 0 = .ok (.aload_n 0, 1) := by decide +kernel
theorem dX1_init_1 : decode cX1_init 1 = .ok (.invokespecial 3, 3) := by decide +kernel
theorem dX1_init_4 : decode cX1_init 4 = .ok (.aload_n 0, 1) := by decide +kernel
theorem dX1_init_5 : decode cX1_init 5 = .ok (.bipush 12, 2) := by decide +kernel
theorem dX1_init_7 : decode cX1_init 7 = .ok (.anewarray 9, 3) := by decide +kernel
theorem dX1_init_10 : decode cX1_init 10 = .ok (.putfield 11, 3) := by decide +kernel
theorem dX1_init_13 : decode cX1_init 13 = .ok (.aload_n 0, 1) := by decide +kernel
theorem dX1_init_14 : decode cX1_init 14 = .ok (.bipush 12, 2) := by decide +kernel
theorem dX1_init_16 : decode cX1_init 16 = .ok (.newarray .boolean, 2) := by decide +kernel
theorem dX1_init_18 : decode cX1_init 18 = .ok (.putfield 17, 3) := by decide +kernel
theorem dX1_init_21 : decode cX1_init 21 = .ok (.aload_n 0, 1) := by decide +kernel
theorem dX1_init_22 : decode cX1_init 22 = .ok (.bipush 12, 2) := by decide +kernel
theorem dX1_init_24 : decode cX1_init 24 = .ok (.anewarray 21, 3) := by decide +kernel
theorem dX1_init_27 : decode cX1_init 27 = .ok (.putfield 23, 3) := by decide +kernel
theorem dX1_init_30 : decode cX1_init 30 = .ok (.aload_n 0, 1) := by decide +kernel
theorem dX1_init_31 : decode cX1_init 31 = .ok (.new 21, 3) := by decide +kernel
theorem dX1_init_34 : decode cX1_init 34 = .ok (.dup, 1) := by decide +kernel
theorem dX1_init_35 : decode cX1_init 35 = .ok (.invokespecial 27, 3) := by decide +kernel
theorem dX1_init_38 : decode cX1_init 38 = .ok (.putfield 28, 3) := by decide +kernel
theorem dX1_init_41 : decode cX1_init 41 = .ok (.aload_n 0, 1) := by decide +kernel
theorem dX1_init_42 : decode cX1_init 42 = .ok (.iconst 1, 1) := by decide +kernel
theorem dX1_init_43 : decode cX1_init 43 = .ok (.putfield 32, 3) := by decide +kernel
theorem dX1_init_46 : decode cX1_init 46 = .ok (.iconst 0, 1) := by decide +kernel
theorem dX1_init_47 : decode cX1_init 47 = .ok (.istore_n 1, 1) := by decide +kernel
theorem dX1_init_48 : decode cX1_init 48 = .ok (.iload_n 1, 1) := by decide +kernel
theorem dX1_init_49 : decode cX1_init 49 = .ok (.bipush 12, 2) := by decide +kernel
theorem dX1_init_51 : decode cX1_init 51 = .ok (.if_icmp .ge 51, 3) := by decide +kernel
theorem dX1_init_54 : decode cX1_init 54 = .ok (.aload_n 0, 1) := by decide +kernel
theorem dX1_init_55 : decode cX1_init 55 = .ok (.getfield 11, 3) := by decide +kernel
theorem dX1_init_58 : decode cX1_init 58 = .ok (.iload_n 1, 1) := by decide +kernel
theorem dX1_init_59 : decode cX1_init 59 = .ok (.new 9, 3) := by decide +kernel
theorem dX1_init_62 : decode cX1_init 62 = .ok (.dup, 1) := by decide +kernel
theorem dX1_init_63 : decode cX1_init 63 = .ok (.invokespecial 36, 3) := by decide +kernel
theorem dX1_init_66 : decode cX1_init 66 = .ok (.aastore, 1) := by decide +kernel
theorem dX1_init_67 : decode cX1_init 67 = .ok (.aload_n 0, 1) := by decide +kernel
theorem dX1_init_68 : decode cX1_init 68 = .ok (.getfield 23, 3) := by decide +kernel
theorem dX1_init_71 : decode cX1_init 71 = .ok (.iload_n 1, 1) := by decide +kernel
theorem dX1_init_72 : decode cX1_init 72 = .ok (.new 21, 3) := by decide +kernel
theorem dX1_init_75 : decode cX1_init 75 = .ok (.dup, 1) := by decide +kernel
theorem dX1_init_76 : decode cX1_init 76 = .ok (.invokespecial 27, 3) := by decide +kernel
theorem dX1_init_79 : decode cX1_init 79 = .ok (.aastore, 1) := by decide +kernel
theorem dX1_init_80 : decode cX1_init 80 = .ok (.aload_n 0, 1) := by decide +kernel
theorem dX1_init_81 : decode cX1_init 81 = .ok (.getfield 17, 3) := by decide +kernel
theorem dX1_init_84 : decode cX1_init 84 = .ok (.iload_n 1, 1) := by decide +kernel
theorem dX1_init_85 : decode cX1_init 85 = .ok (.iload_n 1, 1) := by decide +kernel
theorem dX1_init_86 : decode cX1_init 86 = .ok (.iconst 4, 1) := by decide +kernel
theorem dX1_init_87 : decode cX1_init 87 = .ok (.if_icmp .gt 7, 3) := by decide +kernel
theorem dX1_init_90 : decode cX1_init 90 = .ok (.iconst 1, 1) := by decide +kernel
theorem dX1_init_91 : decode cX1_init 91 = .ok (.goto 4, 3) := by decide +kernel
theorem dX1_init_94 : decode cX1_init 94 = .ok (.iconst 0, 1) := by decide +kernel
theorem dX1_init_95 : decode cX1_init 95 = .ok (.bastore, 1) := by decide +kernel
theorem dX1_init_96 : decode cX1_init 96 = .ok (.iinc 1 1, 3) := by decide +kernel
theorem dX1_init_99 : decode cX1_init 99 = .ok (.goto (-51), 3) := by decide +kernel
theorem dX1_init_102 : decode cX1_init 102 = .ok (.return_, 1) := by decide +kernel
theorem dX1_draft_0 : decode cX1_draft 0 = .ok (.iload_n 1, 1) := by decide +kernel
theorem dX1_draft_1 : decode cX1_draft 1 = .ok (.invokestatic 37, 3) := by decide +kernel
theorem dX1_draft_4 : decode cX1_draft 4 = .ok (.ifCond .ne 5, 3) := by decide +kernel
theorem dX1_draft_7 : decode cX1_draft 7 = .ok (.aconst_null, 1) := by decide +kernel
theorem dX1_draft_8 : decode cX1_draft 8 = .ok (.areturn, 1) := by decide +kernel
theorem dX1_draft_9 : decode cX1_draft 9 = .ok (.aload_n 0, 1) := by decide +kernel
theorem dX1_draft_10 : decode cX1_draft 10 = .ok (.getfield 23, 3) := by decide +kernel
theorem dX1_draft_13 : decode cX1_draft 13 = .ok (.iload_n 1, 1) := by decide +kernel
theorem dX1_draft_14 : decode cX1_draft 14 = .ok (.aaload, 1) := by decide +kernel
theorem dX1_draft_15 : decode cX1_draft 15 = .ok (.iload_n 1, 1) := by decide +kernel
theorem dX1_draft_16 : decode cX1_draft 16 = .ok (.iload_n 2, 1) := by decide +kernel
theorem dX1_draft_17 : decode cX1_draft 17 = .ok (.iload_n 3, 1) := by decide +kernel
theorem dX1_draft_18 : decode cX1_draft 18 = .ok (.iload 4, 2) := by decide +kernel
theorem dX1_draft_20 : decode cX1_draft 20 = .ok (.invokevirtual 41, 3) := by decide +kernel
theorem dX1_draft_23 : decode cX1_draft 23 = .ok (.aload_n 0, 1) := by decide +kernel
theorem dX1_draft_24 : decode cX1_draft 24 = .ok (.getfield 23, 3) := by decide +kernel
theorem dX1_draft_27 : decode cX1_draft 27 = .ok (.iload_n 1, 1) := by decide +kernel
theorem dX1_draft_28 : decode cX1_draft 28 = .ok (.aaload, 1) := by decide +kernel
theorem dX1_draft_29 : decode cX1_draft 29 = .ok (.areturn, 1) := by decide +kernel
theorem dX1_send_0 : decode cX1_send 0 = .ok (.aload_n 0, 1) := by decide +kernel
theorem dX1_send_1 : decode cX1_send 1 = .ok (.iload_n 1, 1) := by decide +kernel
theorem dX1_send_2 : decode cX1_send 2 = .ok (.iload_n 3, 1) := by decide +kernel
theorem dX1_send_3 : decode cX1_send 3 = .ok (.iload 4, 2) := by decide +kernel
theorem dX1_send_5 : decode cX1_send 5 = .ok (.iload 5, 2) := by decide +kernel
theorem dX1_send_7 : decode cX1_send 7 = .ok (.invokevirtual 45, 3) := by decide +kernel
theorem dX1_send_10 : decode cX1_send 10 = .ok (.astore 6, 2) := by decide +kernel
theorem dX1_send_12 : decode cX1_send 12 = .ok (.aload 6, 2) := by decide +kernel
theorem dX1_send_14 : decode cX1_send 14 = .ok (.ifnull 11, 3) := by decide +kernel
theorem dX1_send_17 : decode cX1_send 17 = .ok (.aload_n 0, 1) := by decide +kernel
theorem dX1_send_18 : decode cX1_send 18 = .ok (.aload 6, 2) := by decide +kernel
theorem dX1_send_20 : decode cX1_send 20 = .ok (.iload_n 2, 1) := by decide +kernel
theorem dX1_send_21 : decode cX1_send 21 = .ok (.invokevirtual 49, 3) := by decide +kernel
theorem dX1_send_24 : decode cX1_send 24 = .ok (.pop, 1) := by decide +kernel
theorem dX1_send_25 : decode cX1_send 25 = .ok (.return_, 1) := by decide +kernel
theorem dX1_postLoose_0 : decode cX1_postLoose 0 = .ok (.aload_n 0, 1) := by decide +kernel
theorem dX1_postLoose_1 : decode cX1_postLoose 1 = .ok (.getfield 28, 3) := by decide +kernel
theorem dX1_postLoose_4 : decode cX1_postLoose 4 = .ok (.iload_n 1, 1) := by decide +kernel
theorem dX1_postLoose_5 : decode cX1_postLoose 5 = .ok (.iload_n 3, 1) := by decide +kernel
theorem dX1_postLoose_6 : decode cX1_postLoose 6 = .ok (.iload 4, 2) := by decide +kernel
theorem dX1_postLoose_8 : decode cX1_postLoose 8 = .ok (.iload 5, 2) := by decide +kernel
theorem dX1_postLoose_10 : decode cX1_postLoose 10 = .ok (.invokevirtual 41, 3) := by decide +kernel
theorem dX1_postLoose_13 : decode cX1_postLoose 13 = .ok (.aload_n 0, 1) := by decide +kernel
theorem dX1_postLoose_14 : decode cX1_postLoose 14 = .ok (.aload_n 0, 1) := by decide +kernel
theorem dX1_postLoose_15 : decode cX1_postLoose 15 = .ok (.getfield 28, 3) := by decide +kernel
theorem dX1_postLoose_18 : decode cX1_postLoose 18 = .ok (.iload_n 2, 1) := by decide +kernel
theorem dX1_postLoose_19 : decode cX1_postLoose 19 = .ok (.invokevirtual 49, 3) := by decide +kernel
theorem dX1_postLoose_22 : decode cX1_postLoose 22 = .ok (.ireturn, 1) := by decide +kernel
theorem dX1_sendHeld_0 : decode cX1_sendHeld 0 = .ok (.iload_n 1, 1) := by decide +kernel
theorem dX1_sendHeld_1 : decode cX1_sendHeld 1 = .ok (.invokestatic 37, 3) := by decide +kernel
theorem dX1_sendHeld_4 : decode cX1_sendHeld 4 = .ok (.ifCond .eq 16, 3) := by decide +kernel
theorem dX1_sendHeld_7 : decode cX1_sendHeld 7 = .ok (.aload_n 0, 1) := by decide +kernel
theorem dX1_sendHeld_8 : decode cX1_sendHeld 8 = .ok (.getfield 23, 3) := by decide +kernel
theorem dX1_sendHeld_11 : decode cX1_sendHeld 11 = .ok (.iload_n 1, 1) := by decide +kernel
theorem dX1_sendHeld_12 : decode cX1_sendHeld 12 = .ok (.aaload, 1) := by decide +kernel
theorem dX1_sendHeld_13 : decode cX1_sendHeld 13 = .ok (.getfield 53, 3) := by decide +kernel
theorem dX1_sendHeld_16 : decode cX1_sendHeld 16 = .ok (.iconst (-1), 1) := by decide +kernel
theorem dX1_sendHeld_17 : decode cX1_sendHeld 17 = .ok (.if_icmp .ne 5, 3) := by decide +kernel
theorem dX1_sendHeld_20 : decode cX1_sendHeld 20 = .ok (.iconst 0, 1) := by decide +kernel
theorem dX1_sendHeld_21 : decode cX1_sendHeld 21 = .ok (.ireturn, 1) := by decide +kernel
theorem dX1_sendHeld_22 : decode cX1_sendHeld 22 = .ok (.aload_n 0, 1) := by decide +kernel
theorem dX1_sendHeld_23 : decode cX1_sendHeld 23 = .ok (.getfield 23, 3) := by decide +kernel
theorem dX1_sendHeld_26 : decode cX1_sendHeld 26 = .ok (.iload_n 1, 1) := by decide +kernel
theorem dX1_sendHeld_27 : decode cX1_sendHeld 27 = .ok (.aaload, 1) := by decide +kernel
theorem dX1_sendHeld_28 : decode cX1_sendHeld 28 = .ok (.astore_n 2, 1) := by decide +kernel
theorem dX1_sendHeld_29 : decode cX1_sendHeld 29 = .ok (.aload_n 2, 1) := by decide +kernel
theorem dX1_sendHeld_30 : decode cX1_sendHeld 30 = .ok (.getfield 53, 3) := by decide +kernel
theorem dX1_sendHeld_33 : decode cX1_sendHeld 33 = .ok (.istore_n 3, 1) := by decide +kernel
theorem dX1_sendHeld_34 : decode cX1_sendHeld 34 = .ok (.aload_n 2, 1) := by decide +kernel
theorem dX1_sendHeld_35 : decode cX1_sendHeld 35 = .ok (.iconst (-1), 1) := by decide +kernel
theorem dX1_sendHeld_36 : decode cX1_sendHeld 36 = .ok (.putfield 53, 3) := by decide +kernel
theorem dX1_sendHeld_39 : decode cX1_sendHeld 39 = .ok (.aload_n 0, 1) := by decide +kernel
theorem dX1_sendHeld_40 : decode cX1_sendHeld 40 = .ok (.aload_n 2, 1) := by decide +kernel
theorem dX1_sendHeld_41 : decode cX1_sendHeld 41 = .ok (.iload_n 3, 1) := by decide +kernel
theorem dX1_sendHeld_42 : decode cX1_sendHeld 42 = .ok (.invokevirtual 49, 3) := by decide +kernel
theorem dX1_sendHeld_45 : decode cX1_sendHeld 45 = .ok (.pop, 1) := by decide +kernel
theorem dX1_sendHeld_46 : decode cX1_sendHeld 46 = .ok (.iconst 1, 1) := by decide +kernel
theorem dX1_sendHeld_47 : decode cX1_sendHeld 47 = .ok (.ireturn, 1) := by decide +kernel
theorem dX1_post_0 : decode cX1_post 0 = .ok (.aload_n 1, 1) := by decide +kernel
theorem dX1_post_1 : decode cX1_post 1 = .ok (.getfield 56, 3) := by decide +kernel
theorem dX1_post_4 : decode cX1_post 4 = .ok (.invokestatic 37, 3) := by decide +kernel
theorem dX1_post_7 : decode cX1_post 7 = .ok (.ifCond .eq 25, 3) := by decide +kernel
theorem dX1_post_10 : decode cX1_post 10 = .ok (.iload_n 2, 1) := by decide +kernel
theorem dX1_post_11 : decode cX1_post 11 = .ok (.invokestatic 37, 3) := by decide +kernel
theorem dX1_post_14 : decode cX1_post 14 = .ok (.ifCond .eq 18, 3) := by decide +kernel
theorem dX1_post_17 : decode cX1_post 17 = .ok (.getstatic 59, 3) := by decide +kernel
theorem dX1_post_20 : decode cX1_post 20 = .ok (.aload_n 1, 1) := by decide +kernel
theorem dX1_post_21 : decode cX1_post 21 = .ok (.getfield 56, 3) := by decide +kernel
theorem dX1_post_24 : decode cX1_post 24 = .ok (.iaload, 1) := by decide +kernel
theorem dX1_post_25 : decode cX1_post 25 = .ok (.iload_n 2, 1) := by decide +kernel
theorem dX1_post_26 : decode cX1_post 26 = .ok (.ishr, 1) := by decide +kernel
theorem dX1_post_27 : decode cX1_post 27 = .ok (.iconst 1, 1) := by decide +kernel
theorem dX1_post_28 : decode cX1_post 28 = .ok (.iand, 1) := by decide +kernel
theorem dX1_post_29 : decode cX1_post 29 = .ok (.ifCond .ne 15, 3) := by decide +kernel
theorem dX1_post_32 : decode cX1_post 32 = .ok (.aload_n 0, 1) := by decide +kernel
theorem dX1_post_33 : decode cX1_post 33 = .ok (.dup, 1) := by decide +kernel
theorem dX1_post_34 : decode cX1_post 34 = .ok (.getfield 63, 3) := by decide +kernel
theorem dX1_post_37 : decode cX1_post 37 = .ok (.iconst 1, 1) := by decide +kernel
theorem dX1_post_38 : decode cX1_post 38 = .ok (.iadd, 1) := by decide +kernel
theorem dX1_post_39 : decode cX1_post 39 = .ok (.putfield 63, 3) := by decide +kernel
theorem dX1_post_42 : decode cX1_post 42 = .ok (.iconst 1, 1) := by decide +kernel
theorem dX1_post_43 : decode cX1_post 43 = .ok (.ireturn, 1) := by decide +kernel
theorem dX1_post_44 : decode cX1_post 44 = .ok (.aload_n 0, 1) := by decide +kernel
theorem dX1_post_45 : decode cX1_post 45 = .ok (.getfield 17, 3) := by decide +kernel
theorem dX1_post_48 : decode cX1_post 48 = .ok (.iload_n 2, 1) := by decide +kernel
theorem dX1_post_49 : decode cX1_post 49 = .ok (.baload, 1) := by decide +kernel
theorem dX1_post_50 : decode cX1_post 50 = .ok (.ifCond .eq 21, 3) := by decide +kernel
theorem dX1_post_53 : decode cX1_post 53 = .ok (.aload_n 1, 1) := by decide +kernel
theorem dX1_post_54 : decode cX1_post 54 = .ok (.getfield 66, 3) := by decide +kernel
theorem dX1_post_57 : decode cX1_post 57 = .ok (.ifCond .eq 16, 3) := by decide +kernel
theorem dX1_post_60 : decode cX1_post 60 = .ok (.aload_n 1, 1) := by decide +kernel
theorem dX1_post_61 : decode cX1_post 61 = .ok (.getfield 66, 3) := by decide +kernel
theorem dX1_post_64 : decode cX1_post 64 = .ok (.aload_n 0, 1) := by decide +kernel
theorem dX1_post_65 : decode cX1_post 65 = .ok (.getfield 32, 3) := by decide +kernel
theorem dX1_post_68 : decode cX1_post 68 = .ok (.if_icmp .eq 5, 3) := by decide +kernel
theorem dX1_post_71 : decode cX1_post 71 = .ok (.iconst 2, 1) := by decide +kernel
theorem dX1_post_72 : decode cX1_post 72 = .ok (.ireturn, 1) := by decide +kernel
theorem dX1_post_73 : decode cX1_post 73 = .ok (.aload_n 0, 1) := by decide +kernel
theorem dX1_post_74 : decode cX1_post 74 = .ok (.getfield 11, 3) := by decide +kernel
theorem dX1_post_77 : decode cX1_post 77 = .ok (.iload_n 2, 1) := by decide +kernel
theorem dX1_post_78 : decode cX1_post 78 = .ok (.aaload, 1) := by decide +kernel
theorem dX1_post_79 : decode cX1_post 79 = .ok (.invokevirtual 69, 3) := by decide +kernel
theorem dX1_post_82 : decode cX1_post 82 = .ok (.astore_n 3, 1) := by decide +kernel
theorem dX1_post_83 : decode cX1_post 83 = .ok (.aload_n 3, 1) := by decide +kernel
theorem dX1_post_84 : decode cX1_post 84 = .ok (.ifnonnull 10, 3) := by decide +kernel
theorem dX1_post_87 : decode cX1_post 87 = .ok (.aload_n 1, 1) := by decide +kernel
theorem dX1_post_88 : decode cX1_post 88 = .ok (.iload_n 2, 1) := by decide +kernel
theorem dX1_post_89 : decode cX1_post 89 = .ok (.putfield 53, 3) := by decide +kernel
theorem dX1_post_92 : decode cX1_post 92 = .ok (.iconst 3, 1) := by decide +kernel
theorem dX1_post_93 : decode cX1_post 93 = .ok (.ireturn, 1) := by decide +kernel
theorem dX1_post_94 : decode cX1_post 94 = .ok (.aload_n 3, 1) := by decide +kernel
theorem dX1_post_95 : decode cX1_post 95 = .ok (.aload_n 1, 1) := by decide +kernel
theorem dX1_post_96 : decode cX1_post 96 = .ok (.invokevirtual 73, 3) := by decide +kernel
theorem dX1_post_99 : decode cX1_post 99 = .ok (.aload_n 0, 1) := by decide +kernel
theorem dX1_post_100 : decode cX1_post 100 = .ok (.dup, 1) := by decide +kernel
theorem dX1_post_101 : decode cX1_post 101 = .ok (.getfield 77, 3) := by decide +kernel
theorem dX1_post_104 : decode cX1_post 104 = .ok (.iconst 1, 1) := by decide +kernel
theorem dX1_post_105 : decode cX1_post 105 = .ok (.iadd, 1) := by decide +kernel
theorem dX1_post_106 : decode cX1_post 106 = .ok (.putfield 77, 3) := by decide +kernel
theorem dX1_post_109 : decode cX1_post 109 = .ok (.iconst 0, 1) := by decide +kernel
theorem dX1_post_110 : decode cX1_post 110 = .ok (.ireturn, 1) := by decide +kernel
theorem dX1_end_0 : decode cX1_end 0 = .ok (.iload_n 1, 1) := by decide +kernel
theorem dX1_end_1 : decode cX1_end 1 = .ok (.invokestatic 37, 3) := by decide +kernel
theorem dX1_end_4 : decode cX1_end 4 = .ok (.ifCond .eq 30, 3) := by decide +kernel
theorem dX1_end_7 : decode cX1_end 7 = .ok (.aload_n 0, 1) := by decide +kernel
theorem dX1_end_8 : decode cX1_end 8 = .ok (.getfield 17, 3) := by decide +kernel
theorem dX1_end_11 : decode cX1_end 11 = .ok (.iload_n 1, 1) := by decide +kernel
theorem dX1_end_12 : decode cX1_end 12 = .ok (.iconst 0, 1) := by decide +kernel
theorem dX1_end_13 : decode cX1_end 13 = .ok (.bastore, 1) := by decide +kernel
theorem dX1_end_14 : decode cX1_end 14 = .ok (.aload_n 0, 1) := by decide +kernel
theorem dX1_end_15 : decode cX1_end 15 = .ok (.getfield 11, 3) := by decide +kernel
theorem dX1_end_18 : decode cX1_end 18 = .ok (.iload_n 1, 1) := by decide +kernel
theorem dX1_end_19 : decode cX1_end 19 = .ok (.aaload, 1) := by decide +kernel
theorem dX1_end_20 : decode cX1_end 20 = .ok (.iconst 0, 1) := by decide +kernel
theorem dX1_end_21 : decode cX1_end 21 = .ok (.putfield 80, 3) := by decide +kernel
theorem dX1_end_24 : decode cX1_end 24 = .ok (.aload_n 0, 1) := by decide +kernel
theorem dX1_end_25 : decode cX1_end 25 = .ok (.getfield 23, 3) := by decide +kernel
theorem dX1_end_28 : decode cX1_end 28 = .ok (.iload_n 1, 1) := by decide +kernel
theorem dX1_end_29 : decode cX1_end 29 = .ok (.aaload, 1) := by decide +kernel
theorem dX1_end_30 : decode cX1_end 30 = .ok (.iconst (-1), 1) := by decide +kernel
theorem dX1_end_31 : decode cX1_end 31 = .ok (.putfield 53, 3) := by decide +kernel
theorem dX1_end_34 : decode cX1_end 34 = .ok (.return_, 1) := by decide +kernel
theorem dX1_startDriver_0 : decode cX1_startDriver 0 = .ok (.aload_n 0, 1) := by decide +kernel
theorem dX1_startDriver_1 : decode cX1_startDriver 1 = .ok (.getfield 17, 3) := by decide +kernel
theorem dX1_startDriver_4 : decode cX1_startDriver 4 = .ok (.iconst 1, 1) := by decide +kernel
theorem dX1_startDriver_5 : decode cX1_startDriver 5 = .ok (.iconst 1, 1) := by decide +kernel
theorem dX1_startDriver_6 : decode cX1_startDriver 6 = .ok (.bastore, 1) := by decide +kernel
theorem dX1_startDriver_7 : decode cX1_startDriver 7 = .ok (.aload_n 0, 1) := by decide +kernel
theorem dX1_startDriver_8 : decode cX1_startDriver 8 = .ok (.dup, 1) := by decide +kernel
theorem dX1_startDriver_9 : decode cX1_startDriver 9 = .ok (.getfield 32, 3) := by decide +kernel
theorem dX1_startDriver_12 : decode cX1_startDriver 12 = .ok (.iconst 1, 1) := by decide +kernel
theorem dX1_startDriver_13 : decode cX1_startDriver 13 = .ok (.iadd, 1) := by decide +kernel
theorem dX1_startDriver_14 : decode cX1_startDriver 14 = .ok (.putfield 32, 3) := by decide +kernel
theorem dX1_startDriver_17 : decode cX1_startDriver 17 = .ok (.return_, 1) := by decide +kernel
theorem dX1_livingUsers_0 : decode cX1_livingUsers 0 = .ok (.iconst 0, 1) := by decide +kernel
theorem dX1_livingUsers_1 : decode cX1_livingUsers 1 = .ok (.istore_n 1, 1) := by decide +kernel
theorem dX1_livingUsers_2 : decode cX1_livingUsers 2 = .ok (.iconst 4, 1) := by decide +kernel
theorem dX1_livingUsers_3 : decode cX1_livingUsers 3 = .ok (.istore_n 2, 1) := by decide +kernel
theorem dX1_livingUsers_4 : decode cX1_livingUsers 4 = .ok (.iload_n 2, 1) := by decide +kernel
theorem dX1_livingUsers_5 : decode cX1_livingUsers 5 = .ok (.bipush 12, 2) := by decide +kernel
theorem dX1_livingUsers_7 : decode cX1_livingUsers 7 = .ok (.if_icmp .ge 26, 3) := by decide +kernel
theorem dX1_livingUsers_10 : decode cX1_livingUsers 10 = .ok (.iload_n 1, 1) := by decide +kernel
theorem dX1_livingUsers_11 : decode cX1_livingUsers 11 = .ok (.aload_n 0, 1) := by decide +kernel
theorem dX1_livingUsers_12 : decode cX1_livingUsers 12 = .ok (.getfield 17, 3) := by decide +kernel
theorem dX1_livingUsers_15 : decode cX1_livingUsers 15 = .ok (.iload_n 2, 1) := by decide +kernel
theorem dX1_livingUsers_16 : decode cX1_livingUsers 16 = .ok (.baload, 1) := by decide +kernel
theorem dX1_livingUsers_17 : decode cX1_livingUsers 17 = .ok (.ifCond .eq 7, 3) := by decide +kernel
theorem dX1_livingUsers_20 : decode cX1_livingUsers 20 = .ok (.iconst 1, 1) := by decide +kernel
theorem dX1_livingUsers_21 : decode cX1_livingUsers 21 = .ok (.goto 4, 3) := by decide +kernel
theorem dX1_livingUsers_24 : decode cX1_livingUsers 24 = .ok (.iconst 0, 1) := by decide +kernel
theorem dX1_livingUsers_25 : decode cX1_livingUsers 25 = .ok (.iadd, 1) := by decide +kernel
theorem dX1_livingUsers_26 : decode cX1_livingUsers 26 = .ok (.istore_n 1, 1) := by decide +kernel
theorem dX1_livingUsers_27 : decode cX1_livingUsers 27 = .ok (.iinc 2 1, 3) := by decide +kernel
theorem dX1_livingUsers_30 : decode cX1_livingUsers 30 = .ok (.goto (-26), 3) := by decide +kernel
theorem dX1_livingUsers_33 : decode cX1_livingUsers 33 = .ok (.iload_n 1, 1) := by decide +kernel
theorem dX1_livingUsers_34 : decode cX1_livingUsers 34 = .ok (.ireturn, 1) := by decide +kernel
end
section
theorem dX2_init_0 : decode cX2_init 0 = .ok (.aload_n 0, 1) := by decide +kernel
theorem dX2_init_1 : decode cX2_init 1 = .ok (.invokespecial 3, 3) := by decide +kernel
theorem dX2_init_4 : decode cX2_init 4 = .ok (.aload_n 0, 1) := by decide +kernel
theorem dX2_init_5 : decode cX2_init 5 = .ok (.sipush 192, 3) := by decide +kernel
theorem dX2_init_8 : decode cX2_init 8 = .ok (.newarray .int, 2) := by decide +kernel
theorem dX2_init_10 : decode cX2_init 10 = .ok (.putfield 9, 3) := by decide +kernel
theorem dX2_init_13 : decode cX2_init 13 = .ok (.aload_n 0, 1) := by decide +kernel
theorem dX2_init_14 : decode cX2_init 14 = .ok (.bipush 8, 2) := by decide +kernel
theorem dX2_init_16 : decode cX2_init 16 = .ok (.newarray .int, 2) := by decide +kernel
theorem dX2_init_18 : decode cX2_init 18 = .ok (.putfield 15, 3) := by decide +kernel
theorem dX2_init_21 : decode cX2_init 21 = .ok (.aload_n 0, 1) := by decide +kernel
theorem dX2_init_22 : decode cX2_init 22 = .ok (.iconst (-1), 1) := by decide +kernel
theorem dX2_init_23 : decode cX2_init 23 = .ok (.putfield 18, 3) := by decide +kernel
theorem dX2_init_26 : decode cX2_init 26 = .ok (.return_, 1) := by decide +kernel
theorem dX2_takeTurn_0 : decode cX2_takeTurn 0 = .ok (.aload_n 0, 1) := by decide +kernel
theorem dX2_takeTurn_1 : decode cX2_takeTurn 1 = .ok (.getfield 22, 3) := by decide +kernel
theorem dX2_takeTurn_4 : decode cX2_takeTurn 4 = .ok (.ifCond .eq 4, 3) := by decide +kernel
theorem dX2_takeTurn_7 : decode cX2_takeTurn 7 = .ok (.return_, 1) := by decide +kernel
theorem dX2_takeTurn_8 : decode cX2_takeTurn 8 = .ok (.aload_n 1, 1) := by decide +kernel
theorem dX2_takeTurn_9 : decode cX2_takeTurn 9 = .ok (.getfield 26, 3) := by decide +kernel
theorem dX2_takeTurn_12 : decode cX2_takeTurn 12 = .ok (.iconst 1, 1) := by decide +kernel
theorem dX2_takeTurn_13 : decode cX2_takeTurn 13 = .ok (.aaload, 1) := by decide +kernel
theorem dX2_takeTurn_14 : decode cX2_takeTurn 14 = .ok (.astore_n 2, 1) := by decide +kernel
theorem dX2_takeTurn_15 : decode cX2_takeTurn 15 = .ok (.aload_n 2, 1) := by decide +kernel
theorem dX2_takeTurn_16 : decode cX2_takeTurn 16 = .ok (.aload_n 2, 1) := by decide +kernel
theorem dX2_takeTurn_17 : decode cX2_takeTurn 17 = .ok (.bipush 40, 2) := by decide +kernel
theorem dX2_takeTurn_19 : decode cX2_takeTurn 19 = .ok (.invokevirtual 32, 3) := by decide +kernel
theorem dX2_takeTurn_22 : decode cX2_takeTurn 22 = .ok (.invokevirtual 38, 3) := by decide +kernel
theorem dX2_takeTurn_25 : decode cX2_takeTurn 25 = .ok (.ifnull 16, 3) := by decide +kernel
theorem dX2_takeTurn_28 : decode cX2_takeTurn 28 = .ok (.aload_n 1, 1) := by decide +kernel
theorem dX2_takeTurn_29 : decode cX2_takeTurn 29 = .ok (.iconst 1, 1) := by decide +kernel
theorem dX2_takeTurn_30 : decode cX2_takeTurn 30 = .ok (.iconst 0, 1) := by decide +kernel
theorem dX2_takeTurn_31 : decode cX2_takeTurn 31 = .ok (.bipush 41, 2) := by decide +kernel
theorem dX2_takeTurn_33 : decode cX2_takeTurn 33 = .ok (.iconst 0, 1) := by decide +kernel
theorem dX2_takeTurn_34 : decode cX2_takeTurn 34 = .ok (.iconst 0, 1) := by decide +kernel
theorem dX2_takeTurn_35 : decode cX2_takeTurn 35 = .ok (.invokevirtual 42, 3) := by decide +kernel
theorem dX2_takeTurn_38 : decode cX2_takeTurn 38 = .ok (.goto 28, 3) := by decide +kernel
theorem dX2_takeTurn_41 : decode cX2_takeTurn 41 = .ok (.aload_n 0, 1) := by decide +kernel
theorem dX2_takeTurn_42 : decode cX2_takeTurn 42 = .ok (.getfield 18, 3) := by decide +kernel
theorem dX2_takeTurn_45 : decode cX2_takeTurn 45 = .ok (.iconst (-1), 1) := by decide +kernel
theorem dX2_takeTurn_46 : decode cX2_takeTurn 46 = .ok (.if_icmp .eq 11, 3) := by decide +kernel
theorem dX2_takeTurn_49 : decode cX2_takeTurn 49 = .ok (.aload_n 0, 1) := by decide +kernel
theorem dX2_takeTurn_50 : decode cX2_takeTurn 50 = .ok (.aload_n 1, 1) := by decide +kernel
theorem dX2_takeTurn_51 : decode cX2_takeTurn 51 = .ok (.invokevirtual 46, 3) := by decide +kernel
theorem dX2_takeTurn_54 : decode cX2_takeTurn 54 = .ok (.goto 12, 3) := by decide +kernel
theorem dX2_takeTurn_57 : decode cX2_takeTurn 57 = .ok (.aload_n 0, 1) := by decide +kernel
theorem dX2_takeTurn_58 : decode cX2_takeTurn 58 = .ok (.aload_n 2, 1) := by decide +kernel
theorem dX2_takeTurn_59 : decode cX2_takeTurn 59 = .ok (.iconst 0, 1) := by decide +kernel
theorem dX2_takeTurn_60 : decode cX2_takeTurn 60 = .ok (.invokevirtual 38, 3) := by decide +kernel
theorem dX2_takeTurn_63 : decode cX2_takeTurn 63 = .ok (.invokevirtual 50, 3) := by decide +kernel
theorem dX2_takeTurn_66 : decode cX2_takeTurn 66 = .ok (.return_, 1) := by decide +kernel
theorem dX2_begin_0 : decode cX2_begin 0 = .ok (.aload_n 1, 1) := by decide +kernel
theorem dX2_begin_1 : decode cX2_begin 1 = .ok (.ifnull 37, 3) := by decide +kernel
theorem dX2_begin_4 : decode cX2_begin 4 = .ok (.aload_n 1, 1) := by decide +kernel
theorem dX2_begin_5 : decode cX2_begin 5 = .ok (.getfield 54, 3) := by decide +kernel
theorem dX2_begin_8 : decode cX2_begin 8 = .ok (.bipush 20, 2) := by decide +kernel
theorem dX2_begin_10 : decode cX2_begin 10 = .ok (.if_icmp .eq 12, 3) := by decide +kernel
theorem dX2_begin_13 : decode cX2_begin 13 = .ok (.aload_n 1, 1) := by decide +kernel
theorem dX2_begin_14 : decode cX2_begin 14 = .ok (.getfield 54, 3) := by decide +kernel
theorem dX2_begin_17 : decode cX2_begin 17 = .ok (.bipush 21, 2) := by decide +kernel
theorem dX2_begin_19 : decode cX2_begin 19 = .ok (.if_icmp .ne 19, 3) := by decide +kernel
theorem dX2_begin_22 : decode cX2_begin 22 = .ok (.aload_n 1, 1) := by decide +kernel
theorem dX2_begin_23 : decode cX2_begin 23 = .ok (.getfield 59, 3) := by decide +kernel
theorem dX2_begin_26 : decode cX2_begin 26 = .ok (.ifCond .lt 12, 3) := by decide +kernel
theorem dX2_begin_29 : decode cX2_begin 29 = .ok (.aload_n 1, 1) := by decide +kernel
theorem dX2_begin_30 : decode cX2_begin 30 = .ok (.getfield 59, 3) := by decide +kernel
theorem dX2_begin_33 : decode cX2_begin 33 = .ok (.bipush 24, 2) := by decide +kernel
theorem dX2_begin_35 : decode cX2_begin 35 = .ok (.if_icmp .lt 4, 3) := by decide +kernel
theorem dX2_begin_38 : decode cX2_begin 38 = .ok (.return_, 1) := by decide +kernel
theorem dX2_begin_39 : decode cX2_begin 39 = .ok (.aload_n 0, 1) := by decide +kernel
theorem dX2_begin_40 : decode cX2_begin 40 = .ok (.aload_n 1, 1) := by decide +kernel
theorem dX2_begin_41 : decode cX2_begin 41 = .ok (.getfield 54, 3) := by decide +kernel
theorem dX2_begin_44 : decode cX2_begin 44 = .ok (.putfield 18, 3) := by decide +kernel
theorem dX2_begin_47 : decode cX2_begin 47 = .ok (.aload_n 0, 1) := by decide +kernel
theorem dX2_begin_48 : decode cX2_begin 48 = .ok (.aload_n 1, 1) := by decide +kernel
theorem dX2_begin_49 : decode cX2_begin 49 = .ok (.getfield 59, 3) := by decide +kernel
theorem dX2_begin_52 : decode cX2_begin 52 = .ok (.putfield 62, 3) := by decide +kernel
theorem dX2_begin_55 : decode cX2_begin 55 = .ok (.aload_n 0, 1) := by decide +kernel
theorem dX2_begin_56 : decode cX2_begin 56 = .ok (.getfield 18, 3) := by decide +kernel
theorem dX2_begin_59 : decode cX2_begin 59 = .ok (.bipush 21, 2) := by decide +kernel
theorem dX2_begin_61 : decode cX2_begin 61 = .ok (.if_icmp .ne 29, 3) := by decide +kernel
theorem dX2_begin_64 : decode cX2_begin 64 = .ok (.iconst 0, 1) := by decide +kernel
theorem dX2_begin_65 : decode cX2_begin 65 = .ok (.istore_n 2, 1) := by decide +kernel
theorem dX2_begin_66 : decode cX2_begin 66 = .ok (.iload_n 2, 1) := by decide +kernel
theorem dX2_begin_67 : decode cX2_begin 67 = .ok (.bipush 8, 2) := by decide +kernel
theorem dX2_begin_69 : decode cX2_begin 69 = .ok (.if_icmp .ge 21, 3) := by decide +kernel
theorem dX2_begin_72 : decode cX2_begin 72 = .ok (.aload_n 0, 1) := by decide +kernel
theorem dX2_begin_73 : decode cX2_begin 73 = .ok (.getfield 15, 3) := by decide +kernel
theorem dX2_begin_76 : decode cX2_begin 76 = .ok (.iload_n 2, 1) := by decide +kernel
theorem dX2_begin_77 : decode cX2_begin 77 = .ok (.aload_n 1, 1) := by decide +kernel
theorem dX2_begin_78 : decode cX2_begin 78 = .ok (.getfield 65, 3) := by decide +kernel
theorem dX2_begin_81 : decode cX2_begin 81 = .ok (.iload_n 2, 1) := by decide +kernel
theorem dX2_begin_82 : decode cX2_begin 82 = .ok (.iaload, 1) := by decide +kernel
theorem dX2_begin_83 : decode cX2_begin 83 = .ok (.iastore, 1) := by decide +kernel
theorem dX2_begin_84 : decode cX2_begin 84 = .ok (.iinc 2 1, 3) := by decide +kernel
theorem dX2_begin_87 : decode cX2_begin 87 = .ok (.goto (-21), 3) := by decide +kernel
theorem dX2_begin_90 : decode cX2_begin 90 = .ok (.return_, 1) := by decide +kernel
theorem dX2_work_0 : decode cX2_work 0 = .ok (.aload_n 0, 1) := by decide +kernel
theorem dX2_work_1 : decode cX2_work 1 = .ok (.getfield 66, 3) := by decide +kernel
theorem dX2_work_4 : decode cX2_work 4 = .ok (.aload_n 0, 1) := by decide +kernel
theorem dX2_work_5 : decode cX2_work 5 = .ok (.getfield 62, 3) := by decide +kernel
theorem dX2_work_8 : decode cX2_work 8 = .ok (.if_icmp .eq 29, 3) := by decide +kernel
theorem dX2_work_11 : decode cX2_work 11 = .ok (.aload_n 0, 1) := by decide +kernel
theorem dX2_work_12 : decode cX2_work 12 = .ok (.dup, 1) := by decide +kernel
theorem dX2_work_13 : decode cX2_work 13 = .ok (.getfield 66, 3) := by decide +kernel
theorem dX2_work_16 : decode cX2_work 16 = .ok (.aload_n 0, 1) := by decide +kernel
theorem dX2_work_17 : decode cX2_work 17 = .ok (.getfield 66, 3) := by decide +kernel
theorem dX2_work_20 : decode cX2_work 20 = .ok (.aload_n 0, 1) := by decide +kernel
theorem dX2_work_21 : decode cX2_work 21 = .ok (.getfield 62, 3) := by decide +kernel
theorem dX2_work_24 : decode cX2_work 24 = .ok (.if_icmp .ge 7, 3) := by decide +kernel
theorem dX2_work_27 : decode cX2_work 27 = .ok (.iconst 1, 1) := by decide +kernel
theorem dX2_work_28 : decode cX2_work 28 = .ok (.goto 4, 3) := by decide +kernel
theorem dX2_work_31 : decode cX2_work 31 = .ok (.iconst (-1), 1) := by decide +kernel
theorem dX2_work_32 : decode cX2_work 32 = .ok (.iadd, 1) := by decide +kernel
theorem dX2_work_33 : decode cX2_work 33 = .ok (.putfield 66, 3) := by decide +kernel
theorem dX2_work_36 : decode cX2_work 36 = .ok (.return_, 1) := by decide +kernel
theorem dX2_work_37 : decode cX2_work 37 = .ok (.aload_n 0, 1) := by decide +kernel
theorem dX2_work_38 : decode cX2_work 38 = .ok (.getfield 62, 3) := by decide +kernel
theorem dX2_work_41 : decode cX2_work 41 = .ok (.bipush 8, 2) := by decide +kernel
theorem dX2_work_43 : decode cX2_work 43 = .ok (.imul, 1) := by decide +kernel
theorem dX2_work_44 : decode cX2_work 44 = .ok (.istore_n 2, 1) := by decide +kernel
theorem dX2_work_45 : decode cX2_work 45 = .ok (.aload_n 0, 1) := by decide +kernel
theorem dX2_work_46 : decode cX2_work 46 = .ok (.getfield 18, 3) := by decide +kernel
theorem dX2_work_49 : decode cX2_work 49 = .ok (.bipush 21, 2) := by decide +kernel
theorem dX2_work_51 : decode cX2_work 51 = .ok (.if_icmp .ne 31, 3) := by decide +kernel
theorem dX2_work_54 : decode cX2_work 54 = .ok (.iconst 0, 1) := by decide +kernel
theorem dX2_work_55 : decode cX2_work 55 = .ok (.istore_n 3, 1) := by decide +kernel
theorem dX2_work_56 : decode cX2_work 56 = .ok (.iload_n 3, 1) := by decide +kernel
theorem dX2_work_57 : decode cX2_work 57 = .ok (.bipush 8, 2) := by decide +kernel
theorem dX2_work_59 : decode cX2_work 59 = .ok (.if_icmp .ge 23, 3) := by decide +kernel
theorem dX2_work_62 : decode cX2_work 62 = .ok (.aload_n 0, 1) := by decide +kernel
theorem dX2_work_63 : decode cX2_work 63 = .ok (.getfield 9, 3) := by decide +kernel
theorem dX2_work_66 : decode cX2_work 66 = .ok (.iload_n 2, 1) := by decide +kernel
theorem dX2_work_67 : decode cX2_work 67 = .ok (.iload_n 3, 1) := by decide +kernel
theorem dX2_work_68 : decode cX2_work 68 = .ok (.iadd, 1) := by decide +kernel
theorem dX2_work_69 : decode cX2_work 69 = .ok (.aload_n 0, 1) := by decide +kernel
theorem dX2_work_70 : decode cX2_work 70 = .ok (.getfield 15, 3) := by decide +kernel
theorem dX2_work_73 : decode cX2_work 73 = .ok (.iload_n 3, 1) := by decide +kernel
theorem dX2_work_74 : decode cX2_work 74 = .ok (.iaload, 1) := by decide +kernel
theorem dX2_work_75 : decode cX2_work 75 = .ok (.iastore, 1) := by decide +kernel
theorem dX2_work_76 : decode cX2_work 76 = .ok (.iinc 3 1, 3) := by decide +kernel
theorem dX2_work_79 : decode cX2_work 79 = .ok (.goto (-23), 3) := by decide +kernel
theorem dX2_work_82 : decode cX2_work 82 = .ok (.aload_n 0, 1) := by decide +kernel
theorem dX2_work_83 : decode cX2_work 83 = .ok (.iconst (-1), 1) := by decide +kernel
theorem dX2_work_84 : decode cX2_work 84 = .ok (.putfield 18, 3) := by decide +kernel
theorem dX2_work_87 : decode cX2_work 87 = .ok (.aload_n 1, 1) := by decide +kernel
theorem dX2_work_88 : decode cX2_work 88 = .ok (.iconst 1, 1) := by decide +kernel
theorem dX2_work_89 : decode cX2_work 89 = .ok (.bipush 22, 2) := by decide +kernel
theorem dX2_work_91 : decode cX2_work 91 = .ok (.iconst 0, 1) := by decide +kernel
theorem dX2_work_92 : decode cX2_work 92 = .ok (.iconst 0, 1) := by decide +kernel
theorem dX2_work_93 : decode cX2_work 93 = .ok (.invokevirtual 69, 3) := by decide +kernel
theorem dX2_work_96 : decode cX2_work 96 = .ok (.astore_n 3, 1) := by decide +kernel
theorem dX2_work_97 : decode cX2_work 97 = .ok (.aload_n 3, 1) := by decide +kernel
theorem dX2_work_98 : decode cX2_work 98 = .ok (.ifnull 19, 3) := by decide +kernel
theorem dX2_work_101 : decode cX2_work 101 = .ok (.aload_n 3, 1) := by decide +kernel
theorem dX2_work_102 : decode cX2_work 102 = .ok (.aload_n 0, 1) := by decide +kernel
theorem dX2_work_103 : decode cX2_work 103 = .ok (.getfield 9, 3) := by decide +kernel
theorem dX2_work_106 : decode cX2_work 106 = .ok (.iload_n 2, 1) := by decide +kernel
theorem dX2_work_107 : decode cX2_work 107 = .ok (.invokevirtual 73, 3) := by decide +kernel
theorem dX2_work_110 : decode cX2_work 110 = .ok (.aload_n 1, 1) := by decide +kernel
theorem dX2_work_111 : decode cX2_work 111 = .ok (.aload_n 3, 1) := by decide +kernel
theorem dX2_work_112 : decode cX2_work 112 = .ok (.iconst 2, 1) := by decide +kernel
theorem dX2_work_113 : decode cX2_work 113 = .ok (.invokevirtual 77, 3) := by decide +kernel
theorem dX2_work_116 : decode cX2_work 116 = .ok (.pop, 1) := by decide +kernel
theorem dX2_work_117 : decode cX2_work 117 = .ok (.return_, 1) := by decide +kernel
theorem dX2_loseAll_0 : decode cX2_loseAll 0 = .ok (.aload_n 0, 1) := by decide +kernel
theorem dX2_loseAll_1 : decode cX2_loseAll 1 = .ok (.iconst 0, 1) := by decide +kernel
theorem dX2_loseAll_2 : decode cX2_loseAll 2 = .ok (.putfield 22, 3) := by decide +kernel
theorem dX2_loseAll_5 : decode cX2_loseAll 5 = .ok (.aload_n 0, 1) := by decide +kernel
theorem dX2_loseAll_6 : decode cX2_loseAll 6 = .ok (.iconst 0, 1) := by decide +kernel
theorem dX2_loseAll_7 : decode cX2_loseAll 7 = .ok (.putfield 66, 3) := by decide +kernel
theorem dX2_loseAll_10 : decode cX2_loseAll 10 = .ok (.aload_n 0, 1) := by decide +kernel
theorem dX2_loseAll_11 : decode cX2_loseAll 11 = .ok (.iconst (-1), 1) := by decide +kernel
theorem dX2_loseAll_12 : decode cX2_loseAll 12 = .ok (.putfield 18, 3) := by decide +kernel
theorem dX2_loseAll_15 : decode cX2_loseAll 15 = .ok (.return_, 1) := by decide +kernel
end
section
theorem dX3_init_0 : decode cX3_init 0 = .ok (.aload_n 0, 1) := by decide +kernel
theorem dX3_init_1 : decode cX3_init 1 = .ok (.invokespecial 3, 3) := by decide +kernel
theorem dX3_init_4 : decode cX3_init 4 = .ok (.aload_n 0, 1) := by decide +kernel
theorem dX3_init_5 : decode cX3_init 5 = .ok (.new 9, 3) := by decide +kernel
theorem dX3_init_8 : decode cX3_init 8 = .ok (.dup, 1) := by decide +kernel
theorem dX3_init_9 : decode cX3_init 9 = .ok (.invokespecial 11, 3) := by decide +kernel
theorem dX3_init_12 : decode cX3_init 12 = .ok (.putfield 12, 3) := by decide +kernel
theorem dX3_init_15 : decode cX3_init 15 = .ok (.aload_n 0, 1) := by decide +kernel
theorem dX3_init_16 : decode cX3_init 16 = .ok (.new 18, 3) := by decide +kernel
theorem dX3_init_19 : decode cX3_init 19 = .ok (.dup, 1) := by decide +kernel
theorem dX3_init_20 : decode cX3_init 20 = .ok (.invokespecial 20, 3) := by decide +kernel
theorem dX3_init_23 : decode cX3_init 23 = .ok (.putfield 21, 3) := by decide +kernel
theorem dX3_init_26 : decode cX3_init 26 = .ok (.aload_n 0, 1) := by decide +kernel
theorem dX3_init_27 : decode cX3_init 27 = .ok (.bipush 8, 2) := by decide +kernel
theorem dX3_init_29 : decode cX3_init 29 = .ok (.newarray .int, 2) := by decide +kernel
theorem dX3_init_31 : decode cX3_init 31 = .ok (.putfield 25, 3) := by decide +kernel
theorem dX3_init_34 : decode cX3_init 34 = .ok (.aload_n 0, 1) := by decide +kernel
theorem dX3_init_35 : decode cX3_init 35 = .ok (.iconst 1, 1) := by decide +kernel
theorem dX3_init_36 : decode cX3_init 36 = .ok (.putfield 29, 3) := by decide +kernel
theorem dX3_init_39 : decode cX3_init 39 = .ok (.return_, 1) := by decide +kernel
theorem dX3_takeTurn_0 : decode cX3_takeTurn 0 = .ok (.aload_n 1, 1) := by decide +kernel
theorem dX3_takeTurn_1 : decode cX3_takeTurn 1 = .ok (.getfield 33, 3) := by decide +kernel
theorem dX3_takeTurn_4 : decode cX3_takeTurn 4 = .ok (.iconst 2, 1) := by decide +kernel
theorem dX3_takeTurn_5 : decode cX3_takeTurn 5 = .ok (.aaload, 1) := by decide +kernel
theorem dX3_takeTurn_6 : decode cX3_takeTurn 6 = .ok (.astore_n 2, 1) := by decide +kernel
theorem dX3_takeTurn_7 : decode cX3_takeTurn 7 = .ok (.aload_n 2, 1) := by decide +kernel
theorem dX3_takeTurn_8 : decode cX3_takeTurn 8 = .ok (.aload_n 0, 1) := by decide +kernel
theorem dX3_takeTurn_9 : decode cX3_takeTurn 9 = .ok (.getfield 39, 3) := by decide +kernel
theorem dX3_takeTurn_12 : decode cX3_takeTurn 12 = .ok (.ifCond .eq 11, 3) := by decide +kernel
theorem dX3_takeTurn_15 : decode cX3_takeTurn 15 = .ok (.aload_n 2, 1) := by decide +kernel
theorem dX3_takeTurn_16 : decode cX3_takeTurn 16 = .ok (.iconst 3, 1) := by decide +kernel
theorem dX3_takeTurn_17 : decode cX3_takeTurn 17 = .ok (.invokevirtual 43, 3) := by decide +kernel
theorem dX3_takeTurn_20 : decode cX3_takeTurn 20 = .ok (.goto 4, 3) := by decide +kernel
theorem dX3_takeTurn_23 : decode cX3_takeTurn 23 = .ok (.iconst 0, 1) := by decide +kernel
theorem dX3_takeTurn_24 : decode cX3_takeTurn 24 = .ok (.invokevirtual 49, 3) := by decide +kernel
theorem dX3_takeTurn_27 : decode cX3_takeTurn 27 = .ok (.astore_n 3, 1) := by decide +kernel
theorem dX3_takeTurn_28 : decode cX3_takeTurn 28 = .ok (.aload_n 3, 1) := by decide +kernel
theorem dX3_takeTurn_29 : decode cX3_takeTurn 29 = .ok (.ifnonnull 4, 3) := by decide +kernel
theorem dX3_takeTurn_32 : decode cX3_takeTurn 32 = .ok (.return_, 1) := by decide +kernel
theorem dX3_takeTurn_33 : decode cX3_takeTurn 33 = .ok (.aload_n 3, 1) := by decide +kernel
theorem dX3_takeTurn_34 : decode cX3_takeTurn 34 = .ok (.getfield 53, 3) := by decide +kernel
theorem dX3_takeTurn_37 : decode cX3_takeTurn 37 = .ok (.tableswitch 380 1 42 #[183, 345, 233, 249, 345, 210, 345, 380, 380, 380, 380, 380, 380, 380, 380, 380, 380, 380, 380, 380, 380, 269, 380, 380, 380, 380, 380, 380, 380, 293, 321, 380, 380, 380, 380, 380, 380, 380, 380, 380, 380, 281], 183) := by decide +kernel
theorem dX3_takeTurn_220 : decode cX3_takeTurn 220 = .ok (.aload_n 1, 1) := by decide +kernel
theorem dX3_takeTurn_221 : decode cX3_takeTurn 221 = .ok (.iconst 2, 1) := by decide +kernel
theorem dX3_takeTurn_222 : decode cX3_takeTurn 222 = .ok (.aload_n 3, 1) := by decide +kernel
theorem dX3_takeTurn_223 : decode cX3_takeTurn 223 = .ok (.getfield 58, 3) := by decide +kernel
theorem dX3_takeTurn_226 : decode cX3_takeTurn 226 = .ok (.bipush 50, 2) := by decide +kernel
theorem dX3_takeTurn_228 : decode cX3_takeTurn 228 = .ok (.aload_n 0, 1) := by decide +kernel
theorem dX3_takeTurn_229 : decode cX3_takeTurn 229 = .ok (.aload_n 3, 1) := by decide +kernel
theorem dX3_takeTurn_230 : decode cX3_takeTurn 230 = .ok (.getfield 58, 3) := by decide +kernel
theorem dX3_takeTurn_233 : decode cX3_takeTurn 233 = .ok (.aload_n 3, 1) := by decide +kernel
theorem dX3_takeTurn_234 : decode cX3_takeTurn 234 = .ok (.getfield 61, 3) := by decide +kernel
theorem dX3_takeTurn_237 : decode cX3_takeTurn 237 = .ok (.invokevirtual 64, 3) := by decide +kernel
theorem dX3_takeTurn_240 : decode cX3_takeTurn 240 = .ok (.iconst 0, 1) := by decide +kernel
theorem dX3_takeTurn_241 : decode cX3_takeTurn 241 = .ok (.invokevirtual 68, 3) := by decide +kernel
theorem dX3_takeTurn_244 : decode cX3_takeTurn 244 = .ok (.goto 173, 3) := by decide +kernel
theorem dX3_takeTurn_247 : decode cX3_takeTurn 247 = .ok (.aload_n 1, 1) := by decide +kernel
theorem dX3_takeTurn_248 : decode cX3_takeTurn 248 = .ok (.iconst 2, 1) := by decide +kernel
theorem dX3_takeTurn_249 : decode cX3_takeTurn 249 = .ok (.aload_n 3, 1) := by decide +kernel
theorem dX3_takeTurn_250 : decode cX3_takeTurn 250 = .ok (.getfield 58, 3) := by decide +kernel
theorem dX3_takeTurn_253 : decode cX3_takeTurn 253 = .ok (.bipush 50, 2) := by decide +kernel
theorem dX3_takeTurn_255 : decode cX3_takeTurn 255 = .ok (.aload_n 0, 1) := by decide +kernel
theorem dX3_takeTurn_256 : decode cX3_takeTurn 256 = .ok (.aload_n 3, 1) := by decide +kernel
theorem dX3_takeTurn_257 : decode cX3_takeTurn 257 = .ok (.getfield 61, 3) := by decide +kernel
theorem dX3_takeTurn_260 : decode cX3_takeTurn 260 = .ok (.invokevirtual 72, 3) := by decide +kernel
theorem dX3_takeTurn_263 : decode cX3_takeTurn 263 = .ok (.iconst 0, 1) := by decide +kernel
theorem dX3_takeTurn_264 : decode cX3_takeTurn 264 = .ok (.invokevirtual 68, 3) := by decide +kernel
theorem dX3_takeTurn_267 : decode cX3_takeTurn 267 = .ok (.goto 150, 3) := by decide +kernel
theorem dX3_takeTurn_270 : decode cX3_takeTurn 270 = .ok (.aload_n 0, 1) := by decide +kernel
theorem dX3_takeTurn_271 : decode cX3_takeTurn 271 = .ok (.aload_n 1, 1) := by decide +kernel
theorem dX3_takeTurn_272 : decode cX3_takeTurn 272 = .ok (.aload_n 3, 1) := by decide +kernel
theorem dX3_takeTurn_273 : decode cX3_takeTurn 273 = .ok (.getfield 58, 3) := by decide +kernel
theorem dX3_takeTurn_276 : decode cX3_takeTurn 276 = .ok (.aload_n 3, 1) := by decide +kernel
theorem dX3_takeTurn_277 : decode cX3_takeTurn 277 = .ok (.getfield 61, 3) := by decide +kernel
theorem dX3_takeTurn_280 : decode cX3_takeTurn 280 = .ok (.invokevirtual 75, 3) := by decide +kernel
theorem dX3_takeTurn_283 : decode cX3_takeTurn 283 = .ok (.goto 134, 3) := by decide +kernel
theorem dX3_takeTurn_286 : decode cX3_takeTurn 286 = .ok (.aload_n 0, 1) := by decide +kernel
theorem dX3_takeTurn_287 : decode cX3_takeTurn 287 = .ok (.aload_n 1, 1) := by decide +kernel
theorem dX3_takeTurn_288 : decode cX3_takeTurn 288 = .ok (.aload_n 3, 1) := by decide +kernel
theorem dX3_takeTurn_289 : decode cX3_takeTurn 289 = .ok (.getfield 58, 3) := by decide +kernel
theorem dX3_takeTurn_292 : decode cX3_takeTurn 292 = .ok (.aload_n 3, 1) := by decide +kernel
theorem dX3_takeTurn_293 : decode cX3_takeTurn 293 = .ok (.getfield 61, 3) := by decide +kernel
theorem dX3_takeTurn_296 : decode cX3_takeTurn 296 = .ok (.aload_n 3, 1) := by decide +kernel
theorem dX3_takeTurn_297 : decode cX3_takeTurn 297 = .ok (.getfield 79, 3) := by decide +kernel
theorem dX3_takeTurn_300 : decode cX3_takeTurn 300 = .ok (.invokevirtual 82, 3) := by decide +kernel
theorem dX3_takeTurn_303 : decode cX3_takeTurn 303 = .ok (.goto 114, 3) := by decide +kernel
theorem dX3_takeTurn_306 : decode cX3_takeTurn 306 = .ok (.aload_n 0, 1) := by decide +kernel
theorem dX3_takeTurn_307 : decode cX3_takeTurn 307 = .ok (.aload_n 1, 1) := by decide +kernel
theorem dX3_takeTurn_308 : decode cX3_takeTurn 308 = .ok (.aload_n 3, 1) := by decide +kernel
theorem dX3_takeTurn_309 : decode cX3_takeTurn 309 = .ok (.getfield 86, 3) := by decide +kernel
theorem dX3_takeTurn_312 : decode cX3_takeTurn 312 = .ok (.invokevirtual 87, 3) := by decide +kernel
theorem dX3_takeTurn_315 : decode cX3_takeTurn 315 = .ok (.goto 102, 3) := by decide +kernel
theorem dX3_takeTurn_318 : decode cX3_takeTurn 318 = .ok (.aload_n 0, 1) := by decide +kernel
theorem dX3_takeTurn_319 : decode cX3_takeTurn 319 = .ok (.aload_n 1, 1) := by decide +kernel
theorem dX3_takeTurn_320 : decode cX3_takeTurn 320 = .ok (.aload_n 3, 1) := by decide +kernel
theorem dX3_takeTurn_321 : decode cX3_takeTurn 321 = .ok (.getfield 61, 3) := by decide +kernel
theorem dX3_takeTurn_324 : decode cX3_takeTurn 324 = .ok (.invokevirtual 91, 3) := by decide +kernel
theorem dX3_takeTurn_327 : decode cX3_takeTurn 327 = .ok (.goto 90, 3) := by decide +kernel
theorem dX3_takeTurn_330 : decode cX3_takeTurn 330 = .ok (.aload_n 0, 1) := by decide +kernel
theorem dX3_takeTurn_331 : decode cX3_takeTurn 331 = .ok (.getfield 21, 3) := by decide +kernel
theorem dX3_takeTurn_334 : decode cX3_takeTurn 334 = .ok (.aload_n 3, 1) := by decide +kernel
theorem dX3_takeTurn_335 : decode cX3_takeTurn 335 = .ok (.getfield 61, 3) := by decide +kernel
theorem dX3_takeTurn_338 : decode cX3_takeTurn 338 = .ok (.aload_n 3, 1) := by decide +kernel
theorem dX3_takeTurn_339 : decode cX3_takeTurn 339 = .ok (.getfield 79, 3) := by decide +kernel
theorem dX3_takeTurn_342 : decode cX3_takeTurn 342 = .ok (.invokevirtual 95, 3) := by decide +kernel
theorem dX3_takeTurn_345 : decode cX3_takeTurn 345 = .ok (.aload_n 1, 1) := by decide +kernel
theorem dX3_takeTurn_346 : decode cX3_takeTurn 346 = .ok (.iconst 2, 1) := by decide +kernel
theorem dX3_takeTurn_347 : decode cX3_takeTurn 347 = .ok (.iconst 3, 1) := by decide +kernel
theorem dX3_takeTurn_348 : decode cX3_takeTurn 348 = .ok (.bipush 32, 2) := by decide +kernel
theorem dX3_takeTurn_350 : decode cX3_takeTurn 350 = .ok (.iconst 0, 1) := by decide +kernel
theorem dX3_takeTurn_351 : decode cX3_takeTurn 351 = .ok (.iconst 0, 1) := by decide +kernel
theorem dX3_takeTurn_352 : decode cX3_takeTurn 352 = .ok (.invokevirtual 68, 3) := by decide +kernel
theorem dX3_takeTurn_355 : decode cX3_takeTurn 355 = .ok (.goto 62, 3) := by decide +kernel
theorem dX3_takeTurn_358 : decode cX3_takeTurn 358 = .ok (.aload_n 0, 1) := by decide +kernel
theorem dX3_takeTurn_359 : decode cX3_takeTurn 359 = .ok (.getfield 21, 3) := by decide +kernel
theorem dX3_takeTurn_362 : decode cX3_takeTurn 362 = .ok (.aload_n 3, 1) := by decide +kernel
theorem dX3_takeTurn_363 : decode cX3_takeTurn 363 = .ok (.getfield 61, 3) := by decide +kernel
theorem dX3_takeTurn_366 : decode cX3_takeTurn 366 = .ok (.invokevirtual 99, 3) := by decide +kernel
theorem dX3_takeTurn_369 : decode cX3_takeTurn 369 = .ok (.aload_n 1, 1) := by decide +kernel
theorem dX3_takeTurn_370 : decode cX3_takeTurn 370 = .ok (.iconst 2, 1) := by decide +kernel
theorem dX3_takeTurn_371 : decode cX3_takeTurn 371 = .ok (.iconst 3, 1) := by decide +kernel
theorem dX3_takeTurn_372 : decode cX3_takeTurn 372 = .ok (.bipush 32, 2) := by decide +kernel
theorem dX3_takeTurn_374 : decode cX3_takeTurn 374 = .ok (.iconst 0, 1) := by decide +kernel
theorem dX3_takeTurn_375 : decode cX3_takeTurn 375 = .ok (.iconst 0, 1) := by decide +kernel
theorem dX3_takeTurn_376 : decode cX3_takeTurn 376 = .ok (.invokevirtual 68, 3) := by decide +kernel
theorem dX3_takeTurn_379 : decode cX3_takeTurn 379 = .ok (.goto 38, 3) := by decide +kernel
theorem dX3_takeTurn_382 : decode cX3_takeTurn 382 = .ok (.aload_n 1, 1) := by decide +kernel
theorem dX3_takeTurn_383 : decode cX3_takeTurn 383 = .ok (.iconst 2, 1) := by decide +kernel
theorem dX3_takeTurn_384 : decode cX3_takeTurn 384 = .ok (.aload_n 3, 1) := by decide +kernel
theorem dX3_takeTurn_385 : decode cX3_takeTurn 385 = .ok (.getfield 58, 3) := by decide +kernel
theorem dX3_takeTurn_388 : decode cX3_takeTurn 388 = .ok (.bipush 50, 2) := by decide +kernel
theorem dX3_takeTurn_390 : decode cX3_takeTurn 390 = .ok (.aload_n 0, 1) := by decide +kernel
theorem dX3_takeTurn_391 : decode cX3_takeTurn 391 = .ok (.aload_n 3, 1) := by decide +kernel
theorem dX3_takeTurn_392 : decode cX3_takeTurn 392 = .ok (.getfield 58, 3) := by decide +kernel
theorem dX3_takeTurn_395 : decode cX3_takeTurn 395 = .ok (.aload_n 3, 1) := by decide +kernel
theorem dX3_takeTurn_396 : decode cX3_takeTurn 396 = .ok (.getfield 53, 3) := by decide +kernel
theorem dX3_takeTurn_399 : decode cX3_takeTurn 399 = .ok (.aload_n 3, 1) := by decide +kernel
theorem dX3_takeTurn_400 : decode cX3_takeTurn 400 = .ok (.getfield 61, 3) := by decide +kernel
theorem dX3_takeTurn_403 : decode cX3_takeTurn 403 = .ok (.aload_n 3, 1) := by decide +kernel
theorem dX3_takeTurn_404 : decode cX3_takeTurn 404 = .ok (.getfield 79, 3) := by decide +kernel
theorem dX3_takeTurn_407 : decode cX3_takeTurn 407 = .ok (.invokevirtual 103, 3) := by decide +kernel
theorem dX3_takeTurn_410 : decode cX3_takeTurn 410 = .ok (.iconst 0, 1) := by decide +kernel
theorem dX3_takeTurn_411 : decode cX3_takeTurn 411 = .ok (.invokevirtual 68, 3) := by decide +kernel
theorem dX3_takeTurn_414 : decode cX3_takeTurn 414 = .ok (.goto 3, 3) := by decide +kernel
theorem dX3_takeTurn_417 : decode cX3_takeTurn 417 = .ok (.return_, 1) := by decide +kernel
theorem dX3_handle_0 : decode cX3_handle 0 = .ok (.aload_n 0, 1) := by decide +kernel
theorem dX3_handle_1 : decode cX3_handle 1 = .ok (.getfield 21, 3) := by decide +kernel
theorem dX3_handle_4 : decode cX3_handle 4 = .ok (.iload_n 1, 1) := by decide +kernel
theorem dX3_handle_5 : decode cX3_handle 5 = .ok (.iload_n 3, 1) := by decide +kernel
theorem dX3_handle_6 : decode cX3_handle 6 = .ok (.invokevirtual 107, 3) := by decide +kernel
theorem dX3_handle_9 : decode cX3_handle 9 = .ok (.istore 5, 2) := by decide +kernel
theorem dX3_handle_11 : decode cX3_handle 11 = .ok (.iload 5, 2) := by decide +kernel
theorem dX3_handle_13 : decode cX3_handle 13 = .ok (.iconst (-1), 1) := by decide +kernel
theorem dX3_handle_14 : decode cX3_handle 14 = .ok (.if_icmp .ne 6, 3) := by decide +kernel
theorem dX3_handle_17 : decode cX3_handle 17 = .ok (.bipush (-8), 2) := by decide +kernel
theorem dX3_handle_19 : decode cX3_handle 19 = .ok (.ireturn, 1) := by decide +kernel
theorem dX3_handle_20 : decode cX3_handle 20 = .ok (.iload_n 2, 1) := by decide +kernel
theorem dX3_handle_21 : decode cX3_handle 21 = .ok (.bipush 7, 2) := by decide +kernel
theorem dX3_handle_23 : decode cX3_handle 23 = .ok (.if_icmp .ne 13, 3) := by decide +kernel
theorem dX3_handle_26 : decode cX3_handle 26 = .ok (.aload_n 0, 1) := by decide +kernel
theorem dX3_handle_27 : decode cX3_handle 27 = .ok (.getfield 12, 3) := by decide +kernel
theorem dX3_handle_30 : decode cX3_handle 30 = .ok (.iload 5, 2) := by decide +kernel
theorem dX3_handle_32 : decode cX3_handle 32 = .ok (.invokevirtual 110, 3) := by decide +kernel
theorem dX3_handle_35 : decode cX3_handle 35 = .ok (.ireturn, 1) := by decide +kernel
theorem dX3_handle_36 : decode cX3_handle 36 = .ok (.iload_n 2, 1) := by decide +kernel
theorem dX3_handle_37 : decode cX3_handle 37 = .ok (.iconst 2, 1) := by decide +kernel
theorem dX3_handle_38 : decode cX3_handle 38 = .ok (.if_icmp .ne 16, 3) := by decide +kernel
theorem dX3_handle_41 : decode cX3_handle 41 = .ok (.aload_n 0, 1) := by decide +kernel
theorem dX3_handle_42 : decode cX3_handle 42 = .ok (.getfield 21, 3) := by decide +kernel
theorem dX3_handle_45 : decode cX3_handle 45 = .ok (.iload_n 1, 1) := by decide +kernel
theorem dX3_handle_46 : decode cX3_handle 46 = .ok (.iload_n 3, 1) := by decide +kernel
theorem dX3_handle_47 : decode cX3_handle 47 = .ok (.iconst (-1), 1) := by decide +kernel
theorem dX3_handle_48 : decode cX3_handle 48 = .ok (.iconst 0, 1) := by decide +kernel
theorem dX3_handle_49 : decode cX3_handle 49 = .ok (.invokevirtual 113, 3) := by decide +kernel
theorem dX3_handle_52 : decode cX3_handle 52 = .ok (.iconst 0, 1) := by decide +kernel
theorem dX3_handle_53 : decode cX3_handle 53 = .ok (.ireturn, 1) := by decide +kernel
theorem dX3_handle_54 : decode cX3_handle 54 = .ok (.iload 4, 2) := by decide +kernel
theorem dX3_handle_56 : decode cX3_handle 56 = .ok (.ifCond .lt 17, 3) := by decide +kernel
theorem dX3_handle_59 : decode cX3_handle 59 = .ok (.iload 4, 2) := by decide +kernel
theorem dX3_handle_61 : decode cX3_handle 61 = .ok (.aload_n 0, 1) := by decide +kernel
theorem dX3_handle_62 : decode cX3_handle 62 = .ok (.getfield 12, 3) := by decide +kernel
theorem dX3_handle_65 : decode cX3_handle 65 = .ok (.iload 5, 2) := by decide +kernel
theorem dX3_handle_67 : decode cX3_handle 67 = .ok (.invokevirtual 110, 3) := by decide +kernel
theorem dX3_handle_70 : decode cX3_handle 70 = .ok (.if_icmp .le 5, 3) := by decide +kernel
theorem dX3_handle_73 : decode cX3_handle 73 = .ok (.iconst (-1), 1) := by decide +kernel
theorem dX3_handle_74 : decode cX3_handle 74 = .ok (.ireturn, 1) := by decide +kernel
theorem dX3_handle_75 : decode cX3_handle 75 = .ok (.aload_n 0, 1) := by decide +kernel
theorem dX3_handle_76 : decode cX3_handle 76 = .ok (.getfield 21, 3) := by decide +kernel
theorem dX3_handle_79 : decode cX3_handle 79 = .ok (.iload_n 1, 1) := by decide +kernel
theorem dX3_handle_80 : decode cX3_handle 80 = .ok (.iload_n 3, 1) := by decide +kernel
theorem dX3_handle_81 : decode cX3_handle 81 = .ok (.iload 4, 2) := by decide +kernel
theorem dX3_handle_83 : decode cX3_handle 83 = .ok (.invokevirtual 117, 3) := by decide +kernel
theorem dX3_handle_86 : decode cX3_handle 86 = .ok (.iconst 0, 1) := by decide +kernel
theorem dX3_handle_87 : decode cX3_handle 87 = .ok (.ireturn, 1) := by decide +kernel
theorem dX3_openFile_0 : decode cX3_openFile 0 = .ok (.iload_n 2, 1) := by decide +kernel
theorem dX3_openFile_1 : decode cX3_openFile 1 = .ok (.ifCond .lt 9, 3) := by decide +kernel
theorem dX3_openFile_4 : decode cX3_openFile 4 = .ok (.iload_n 2, 1) := by decide +kernel
theorem dX3_openFile_5 : decode cX3_openFile 5 = .ok (.bipush 16, 2) := by decide +kernel
theorem dX3_openFile_7 : decode cX3_openFile 7 = .ok (.if_icmp .lt 5, 3) := by decide +kernel
theorem dX3_openFile_10 : decode cX3_openFile 10 = .ok (.iconst (-1), 1) := by decide +kernel
theorem dX3_openFile_11 : decode cX3_openFile 11 = .ok (.ireturn, 1) := by decide +kernel
theorem dX3_openFile_12 : decode cX3_openFile 12 = .ok (.aload_n 0, 1) := by decide +kernel
theorem dX3_openFile_13 : decode cX3_openFile 13 = .ok (.getfield 21, 3) := by decide +kernel
theorem dX3_openFile_16 : decode cX3_openFile 16 = .ok (.iload_n 1, 1) := by decide +kernel
theorem dX3_openFile_17 : decode cX3_openFile 17 = .ok (.invokevirtual 121, 3) := by decide +kernel
theorem dX3_openFile_20 : decode cX3_openFile 20 = .ok (.istore_n 3, 1) := by decide +kernel
theorem dX3_openFile_21 : decode cX3_openFile 21 = .ok (.iload_n 3, 1) := by decide +kernel
theorem dX3_openFile_22 : decode cX3_openFile 22 = .ok (.iconst (-1), 1) := by decide +kernel
theorem dX3_openFile_23 : decode cX3_openFile 23 = .ok (.if_icmp .ne 6, 3) := by decide +kernel
theorem dX3_openFile_26 : decode cX3_openFile 26 = .ok (.bipush (-2), 2) := by decide +kernel
theorem dX3_openFile_28 : decode cX3_openFile 28 = .ok (.ireturn, 1) := by decide +kernel
theorem dX3_openFile_29 : decode cX3_openFile 29 = .ok (.aload_n 0, 1) := by decide +kernel
theorem dX3_openFile_30 : decode cX3_openFile 30 = .ok (.getfield 12, 3) := by decide +kernel
theorem dX3_openFile_33 : decode cX3_openFile 33 = .ok (.iload_n 2, 1) := by decide +kernel
theorem dX3_openFile_34 : decode cX3_openFile 34 = .ok (.invokevirtual 124, 3) := by decide +kernel
theorem dX3_openFile_37 : decode cX3_openFile 37 = .ok (.ifCond .ne 26, 3) := by decide +kernel
theorem dX3_openFile_40 : decode cX3_openFile 40 = .ok (.aload_n 0, 1) := by decide +kernel
theorem dX3_openFile_41 : decode cX3_openFile 41 = .ok (.getfield 12, 3) := by decide +kernel
theorem dX3_openFile_44 : decode cX3_openFile 44 = .ok (.getfield 128, 3) := by decide +kernel
theorem dX3_openFile_47 : decode cX3_openFile 47 = .ok (.bipush 8, 2) := by decide +kernel
theorem dX3_openFile_49 : decode cX3_openFile 49 = .ok (.if_icmp .lt 6, 3) := by decide +kernel
theorem dX3_openFile_52 : decode cX3_openFile 52 = .ok (.bipush (-3), 2) := by decide +kernel
theorem dX3_openFile_54 : decode cX3_openFile 54 = .ok (.ireturn, 1) := by decide +kernel
theorem dX3_openFile_55 : decode cX3_openFile 55 = .ok (.aload_n 0, 1) := by decide +kernel
theorem dX3_openFile_56 : decode cX3_openFile 56 = .ok (.getfield 12, 3) := by decide +kernel
theorem dX3_openFile_59 : decode cX3_openFile 59 = .ok (.iload_n 2, 1) := by decide +kernel
theorem dX3_openFile_60 : decode cX3_openFile 60 = .ok (.invokevirtual 131, 3) := by decide +kernel
theorem dX3_openFile_63 : decode cX3_openFile 63 = .ok (.aload_n 0, 1) := by decide +kernel
theorem dX3_openFile_64 : decode cX3_openFile 64 = .ok (.getfield 21, 3) := by decide +kernel
theorem dX3_openFile_67 : decode cX3_openFile 67 = .ok (.iload_n 1, 1) := by decide +kernel
theorem dX3_openFile_68 : decode cX3_openFile 68 = .ok (.iload_n 3, 1) := by decide +kernel
theorem dX3_openFile_69 : decode cX3_openFile 69 = .ok (.iload_n 2, 1) := by decide +kernel
theorem dX3_openFile_70 : decode cX3_openFile 70 = .ok (.iconst 0, 1) := by decide +kernel
theorem dX3_openFile_71 : decode cX3_openFile 71 = .ok (.invokevirtual 113, 3) := by decide +kernel
theorem dX3_openFile_74 : decode cX3_openFile 74 = .ok (.iload_n 3, 1) := by decide +kernel
theorem dX3_openFile_75 : decode cX3_openFile 75 = .ok (.ireturn, 1) := by decide +kernel
theorem dX3_removeFile_0 : decode cX3_removeFile 0 = .ok (.aload_n 0, 1) := by decide +kernel
theorem dX3_removeFile_1 : decode cX3_removeFile 1 = .ok (.getfield 12, 3) := by decide +kernel
theorem dX3_removeFile_4 : decode cX3_removeFile 4 = .ok (.iload_n 1, 1) := by decide +kernel
theorem dX3_removeFile_5 : decode cX3_removeFile 5 = .ok (.invokevirtual 124, 3) := by decide +kernel
theorem dX3_removeFile_8 : decode cX3_removeFile 8 = .ok (.ifCond .ne 5, 3) := by decide +kernel
theorem dX3_removeFile_11 : decode cX3_removeFile 11 = .ok (.iconst (-1), 1) := by decide +kernel
theorem dX3_removeFile_12 : decode cX3_removeFile 12 = .ok (.ireturn, 1) := by decide +kernel
theorem dX3_removeFile_13 : decode cX3_removeFile 13 = .ok (.aload_n 0, 1) := by decide +kernel
theorem dX3_removeFile_14 : decode cX3_removeFile 14 = .ok (.getfield 21, 3) := by decide +kernel
theorem dX3_removeFile_17 : decode cX3_removeFile 17 = .ok (.iload_n 1, 1) := by decide +kernel
theorem dX3_removeFile_18 : decode cX3_removeFile 18 = .ok (.invokevirtual 134, 3) := by decide +kernel
theorem dX3_removeFile_21 : decode cX3_removeFile 21 = .ok (.ifCond .eq 6, 3) := by decide +kernel
theorem dX3_removeFile_24 : decode cX3_removeFile 24 = .ok (.bipush (-7), 2) := by decide +kernel
theorem dX3_removeFile_26 : decode cX3_removeFile 26 = .ok (.ireturn, 1) := by decide +kernel
theorem dX3_removeFile_27 : decode cX3_removeFile 27 = .ok (.aload_n 0, 1) := by decide +kernel
theorem dX3_removeFile_28 : decode cX3_removeFile 28 = .ok (.getfield 12, 3) := by decide +kernel
theorem dX3_removeFile_31 : decode cX3_removeFile 31 = .ok (.iload_n 1, 1) := by decide +kernel
theorem dX3_removeFile_32 : decode cX3_removeFile 32 = .ok (.invokevirtual 137, 3) := by decide +kernel
theorem dX3_removeFile_35 : decode cX3_removeFile 35 = .ok (.iconst 0, 1) := by decide +kernel
theorem dX3_removeFile_36 : decode cX3_removeFile 36 = .ok (.ireturn, 1) := by decide +kernel
theorem dX3_read_0 : decode cX3_read 0 = .ok (.aload_n 0, 1) := by decide +kernel
theorem dX3_read_1 : decode cX3_read 1 = .ok (.getfield 21, 3) := by decide +kernel
theorem dX3_read_4 : decode cX3_read 4 = .ok (.iload_n 2, 1) := by decide +kernel
theorem dX3_read_5 : decode cX3_read 5 = .ok (.iload_n 3, 1) := by decide +kernel
theorem dX3_read_6 : decode cX3_read 6 = .ok (.invokevirtual 107, 3) := by decide +kernel
theorem dX3_read_9 : decode cX3_read 9 = .ok (.istore 4, 2) := by decide +kernel
theorem dX3_read_11 : decode cX3_read 11 = .ok (.aload_n 0, 1) := by decide +kernel
theorem dX3_read_12 : decode cX3_read 12 = .ok (.getfield 21, 3) := by decide +kernel
theorem dX3_read_15 : decode cX3_read 15 = .ok (.iload_n 2, 1) := by decide +kernel
theorem dX3_read_16 : decode cX3_read 16 = .ok (.iload_n 3, 1) := by decide +kernel
theorem dX3_read_17 : decode cX3_read 17 = .ok (.invokevirtual 140, 3) := by decide +kernel
theorem dX3_read_20 : decode cX3_read 20 = .ok (.istore 5, 2) := by decide +kernel
theorem dX3_read_22 : decode cX3_read 22 = .ok (.iload 4, 2) := by decide +kernel
theorem dX3_read_24 : decode cX3_read 24 = .ok (.iconst (-1), 1) := by decide +kernel
theorem dX3_read_25 : decode cX3_read 25 = .ok (.if_icmp .eq 17, 3) := by decide +kernel
theorem dX3_read_28 : decode cX3_read 28 = .ok (.iload 5, 2) := by decide +kernel
theorem dX3_read_30 : decode cX3_read 30 = .ok (.aload_n 0, 1) := by decide +kernel
theorem dX3_read_31 : decode cX3_read 31 = .ok (.getfield 12, 3) := by decide +kernel
theorem dX3_read_34 : decode cX3_read 34 = .ok (.iload 4, 2) := by decide +kernel
theorem dX3_read_36 : decode cX3_read 36 = .ok (.invokevirtual 110, 3) := by decide +kernel
theorem dX3_read_39 : decode cX3_read 39 = .ok (.if_icmp .lt 26, 3) := by decide +kernel
theorem dX3_read_42 : decode cX3_read 42 = .ok (.aload_n 1, 1) := by decide +kernel
theorem dX3_read_43 : decode cX3_read 43 = .ok (.iconst 2, 1) := by decide +kernel
theorem dX3_read_44 : decode cX3_read 44 = .ok (.iload_n 2, 1) := by decide +kernel
theorem dX3_read_45 : decode cX3_read 45 = .ok (.bipush 50, 2) := by decide +kernel
theorem dX3_read_47 : decode cX3_read 47 = .ok (.iload 4, 2) := by decide +kernel
theorem dX3_read_49 : decode cX3_read 49 = .ok (.iconst (-1), 1) := by decide +kernel
theorem dX3_read_50 : decode cX3_read 50 = .ok (.if_icmp .ne 8, 3) := by decide +kernel
theorem dX3_read_53 : decode cX3_read 53 = .ok (.bipush (-8), 2) := by decide +kernel
theorem dX3_read_55 : decode cX3_read 55 = .ok (.goto 5, 3) := by decide +kernel
theorem dX3_read_58 : decode cX3_read 58 = .ok (.bipush (-5), 2) := by decide +kernel
theorem dX3_read_60 : decode cX3_read 60 = .ok (.iconst 0, 1) := by decide +kernel
theorem dX3_read_61 : decode cX3_read 61 = .ok (.invokevirtual 68, 3) := by decide +kernel
theorem dX3_read_64 : decode cX3_read 64 = .ok (.return_, 1) := by decide +kernel
theorem dX3_read_65 : decode cX3_read 65 = .ok (.aload_n 0, 1) := by decide +kernel
theorem dX3_read_66 : decode cX3_read 66 = .ok (.iload_n 2, 1) := by decide +kernel
theorem dX3_read_67 : decode cX3_read 67 = .ok (.iload_n 3, 1) := by decide +kernel
theorem dX3_read_68 : decode cX3_read 68 = .ok (.iconst 1, 1) := by decide +kernel
theorem dX3_read_69 : decode cX3_read 69 = .ok (.iconst 0, 1) := by decide +kernel
theorem dX3_read_70 : decode cX3_read 70 = .ok (.invokevirtual 143, 3) := by decide +kernel
theorem dX3_read_73 : decode cX3_read 73 = .ok (.aload_n 0, 1) := by decide +kernel
theorem dX3_read_74 : decode cX3_read 74 = .ok (.aload_n 0, 1) := by decide +kernel
theorem dX3_read_75 : decode cX3_read 75 = .ok (.getfield 12, 3) := by decide +kernel
theorem dX3_read_78 : decode cX3_read 78 = .ok (.iload 4, 2) := by decide +kernel
theorem dX3_read_80 : decode cX3_read 80 = .ok (.iload 5, 2) := by decide +kernel
theorem dX3_read_82 : decode cX3_read 82 = .ok (.bipush 8, 2) := by decide +kernel
theorem dX3_read_84 : decode cX3_read 84 = .ok (.idiv, 1) := by decide +kernel
theorem dX3_read_85 : decode cX3_read 85 = .ok (.i2l, 1) := by decide +kernel
theorem dX3_read_86 : decode cX3_read 86 = .ok (.invokevirtual 147, 3) := by decide +kernel
theorem dX3_read_89 : decode cX3_read 89 = .ok (.putfield 151, 3) := by decide +kernel
theorem dX3_read_92 : decode cX3_read 92 = .ok (.aload_n 0, 1) := by decide +kernel
theorem dX3_read_93 : decode cX3_read 93 = .ok (.aload_n 1, 1) := by decide +kernel
theorem dX3_read_94 : decode cX3_read 94 = .ok (.bipush 20, 2) := by decide +kernel
theorem dX3_read_96 : decode cX3_read 96 = .ok (.invokevirtual 154, 3) := by decide +kernel
theorem dX3_read_99 : decode cX3_read 99 = .ok (.return_, 1) := by decide +kernel
theorem dX3_write_0 : decode cX3_write 0 = .ok (.aload_n 0, 1) := by decide +kernel
theorem dX3_write_1 : decode cX3_write 1 = .ok (.getfield 21, 3) := by decide +kernel
theorem dX3_write_4 : decode cX3_write 4 = .ok (.iload_n 2, 1) := by decide +kernel
theorem dX3_write_5 : decode cX3_write 5 = .ok (.iload_n 3, 1) := by decide +kernel
theorem dX3_write_6 : decode cX3_write 6 = .ok (.invokevirtual 107, 3) := by decide +kernel
theorem dX3_write_9 : decode cX3_write 9 = .ok (.istore 5, 2) := by decide +kernel
theorem dX3_write_11 : decode cX3_write 11 = .ok (.aload_n 0, 1) := by decide +kernel
theorem dX3_write_12 : decode cX3_write 12 = .ok (.getfield 21, 3) := by decide +kernel
theorem dX3_write_15 : decode cX3_write 15 = .ok (.iload_n 2, 1) := by decide +kernel
theorem dX3_write_16 : decode cX3_write 16 = .ok (.iload_n 3, 1) := by decide +kernel
theorem dX3_write_17 : decode cX3_write 17 = .ok (.invokevirtual 140, 3) := by decide +kernel
theorem dX3_write_20 : decode cX3_write 20 = .ok (.istore 6, 2) := by decide +kernel
theorem dX3_write_22 : decode cX3_write 22 = .ok (.aload_n 0, 1) := by decide +kernel
theorem dX3_write_23 : decode cX3_write 23 = .ok (.iload 5, 2) := by decide +kernel
theorem dX3_write_25 : decode cX3_write 25 = .ok (.iload 6, 2) := by decide +kernel
theorem dX3_write_27 : decode cX3_write 27 = .ok (.invokevirtual 157, 3) := by decide +kernel
theorem dX3_write_30 : decode cX3_write 30 = .ok (.istore 7, 2) := by decide +kernel
theorem dX3_write_32 : decode cX3_write 32 = .ok (.iload 7, 2) := by decide +kernel
theorem dX3_write_34 : decode cX3_write 34 = .ok (.ifCond .eq 15, 3) := by decide +kernel
theorem dX3_write_37 : decode cX3_write 37 = .ok (.aload_n 1, 1) := by decide +kernel
theorem dX3_write_38 : decode cX3_write 38 = .ok (.iconst 2, 1) := by decide +kernel
theorem dX3_write_39 : decode cX3_write 39 = .ok (.iload_n 2, 1) := by decide +kernel
theorem dX3_write_40 : decode cX3_write 40 = .ok (.bipush 50, 2) := by decide +kernel
theorem dX3_write_42 : decode cX3_write 42 = .ok (.iload 7, 2) := by decide +kernel
theorem dX3_write_44 : decode cX3_write 44 = .ok (.iconst 0, 1) := by decide +kernel
theorem dX3_write_45 : decode cX3_write 45 = .ok (.invokevirtual 68, 3) := by decide +kernel
theorem dX3_write_48 : decode cX3_write 48 = .ok (.return_, 1) := by decide +kernel
theorem dX3_write_49 : decode cX3_write 49 = .ok (.aload_n 0, 1) := by decide +kernel
theorem dX3_write_50 : decode cX3_write 50 = .ok (.iload_n 2, 1) := by decide +kernel
theorem dX3_write_51 : decode cX3_write 51 = .ok (.iload_n 3, 1) := by decide +kernel
theorem dX3_write_52 : decode cX3_write 52 = .ok (.iconst 0, 1) := by decide +kernel
theorem dX3_write_53 : decode cX3_write 53 = .ok (.iload 4, 2) := by decide +kernel
theorem dX3_write_55 : decode cX3_write 55 = .ok (.invokevirtual 143, 3) := by decide +kernel
theorem dX3_write_58 : decode cX3_write 58 = .ok (.aload_n 0, 1) := by decide +kernel
theorem dX3_write_59 : decode cX3_write 59 = .ok (.getfield 12, 3) := by decide +kernel
theorem dX3_write_62 : decode cX3_write 62 = .ok (.iload 5, 2) := by decide +kernel
theorem dX3_write_64 : decode cX3_write 64 = .ok (.iload 6, 2) := by decide +kernel
theorem dX3_write_66 : decode cX3_write 66 = .ok (.invokevirtual 160, 3) := by decide +kernel
theorem dX3_write_69 : decode cX3_write 69 = .ok (.ifCond .ne 30, 3) := by decide +kernel
theorem dX3_write_72 : decode cX3_write 72 = .ok (.aload_n 0, 1) := by decide +kernel
theorem dX3_write_73 : decode cX3_write 73 = .ok (.aload_n 0, 1) := by decide +kernel
theorem dX3_write_74 : decode cX3_write 74 = .ok (.getfield 12, 3) := by decide +kernel
theorem dX3_write_77 : decode cX3_write 77 = .ok (.iload 5, 2) := by decide +kernel
theorem dX3_write_79 : decode cX3_write 79 = .ok (.iload 6, 2) := by decide +kernel
theorem dX3_write_81 : decode cX3_write 81 = .ok (.bipush 8, 2) := by decide +kernel
theorem dX3_write_83 : decode cX3_write 83 = .ok (.idiv, 1) := by decide +kernel
theorem dX3_write_84 : decode cX3_write 84 = .ok (.i2l, 1) := by decide +kernel
theorem dX3_write_85 : decode cX3_write 85 = .ok (.invokevirtual 147, 3) := by decide +kernel
theorem dX3_write_88 : decode cX3_write 88 = .ok (.putfield 151, 3) := by decide +kernel
theorem dX3_write_91 : decode cX3_write 91 = .ok (.aload_n 0, 1) := by decide +kernel
theorem dX3_write_92 : decode cX3_write 92 = .ok (.aload_n 1, 1) := by decide +kernel
theorem dX3_write_93 : decode cX3_write 93 = .ok (.bipush 20, 2) := by decide +kernel
theorem dX3_write_95 : decode cX3_write 95 = .ok (.invokevirtual 154, 3) := by decide +kernel
theorem dX3_write_98 : decode cX3_write 98 = .ok (.return_, 1) := by decide +kernel
theorem dX3_write_99 : decode cX3_write 99 = .ok (.aload_n 0, 1) := by decide +kernel
theorem dX3_write_100 : decode cX3_write 100 = .ok (.aload_n 0, 1) := by decide +kernel
theorem dX3_write_101 : decode cX3_write 101 = .ok (.getfield 12, 3) := by decide +kernel
theorem dX3_write_104 : decode cX3_write 104 = .ok (.iload 5, 2) := by decide +kernel
theorem dX3_write_106 : decode cX3_write 106 = .ok (.iload 6, 2) := by decide +kernel
theorem dX3_write_108 : decode cX3_write 108 = .ok (.invokevirtual 164, 3) := by decide +kernel
theorem dX3_write_111 : decode cX3_write 111 = .ok (.putfield 151, 3) := by decide +kernel
theorem dX3_write_114 : decode cX3_write 114 = .ok (.iconst 0, 1) := by decide +kernel
theorem dX3_write_115 : decode cX3_write 115 = .ok (.istore 8, 2) := by decide +kernel
theorem dX3_write_117 : decode cX3_write 117 = .ok (.iload 8, 2) := by decide +kernel
theorem dX3_write_119 : decode cX3_write 119 = .ok (.bipush 8, 2) := by decide +kernel
theorem dX3_write_121 : decode cX3_write 121 = .ok (.if_icmp .ge 27, 3) := by decide +kernel
theorem dX3_write_124 : decode cX3_write 124 = .ok (.aload_n 0, 1) := by decide +kernel
theorem dX3_write_125 : decode cX3_write 125 = .ok (.getfield 25, 3) := by decide +kernel
theorem dX3_write_128 : decode cX3_write 128 = .ok (.iload 8, 2) := by decide +kernel
theorem dX3_write_130 : decode cX3_write 130 = .ok (.iload 8, 2) := by decide +kernel
theorem dX3_write_132 : decode cX3_write 132 = .ok (.ifCond .ne 8, 3) := by decide +kernel
theorem dX3_write_135 : decode cX3_write 135 = .ok (.iload 4, 2) := by decide +kernel
theorem dX3_write_137 : decode cX3_write 137 = .ok (.goto 4, 3) := by decide +kernel
theorem dX3_write_140 : decode cX3_write 140 = .ok (.iconst 0, 1) := by decide +kernel
theorem dX3_write_141 : decode cX3_write 141 = .ok (.iastore, 1) := by decide +kernel
theorem dX3_write_142 : decode cX3_write 142 = .ok (.iinc 8 1, 3) := by decide +kernel
theorem dX3_write_145 : decode cX3_write 145 = .ok (.goto (-28), 3) := by decide +kernel
theorem dX3_write_148 : decode cX3_write 148 = .ok (.aload_n 0, 1) := by decide +kernel
theorem dX3_write_149 : decode cX3_write 149 = .ok (.aload_n 1, 1) := by decide +kernel
theorem dX3_write_150 : decode cX3_write 150 = .ok (.bipush 21, 2) := by decide +kernel
theorem dX3_write_152 : decode cX3_write 152 = .ok (.invokevirtual 154, 3) := by decide +kernel
theorem dX3_write_155 : decode cX3_write 155 = .ok (.return_, 1) := by decide +kernel
theorem dX3_whyNotWrite_0 : decode cX3_whyNotWrite 0 = .ok (.iload_n 1, 1) := by decide +kernel
theorem dX3_whyNotWrite_1 : decode cX3_whyNotWrite 1 = .ok (.iconst (-1), 1) := by decide +kernel
theorem dX3_whyNotWrite_2 : decode cX3_whyNotWrite 2 = .ok (.if_icmp .ne 6, 3) := by decide +kernel
theorem dX3_whyNotWrite_5 : decode cX3_whyNotWrite 5 = .ok (.bipush (-8), 2) := by decide +kernel
theorem dX3_whyNotWrite_7 : decode cX3_whyNotWrite 7 = .ok (.ireturn, 1) := by decide +kernel
theorem dX3_whyNotWrite_8 : decode cX3_whyNotWrite 8 = .ok (.iload_n 2, 1) := by decide +kernel
theorem dX3_whyNotWrite_9 : decode cX3_whyNotWrite 9 = .ok (.bipush 32, 2) := by decide +kernel
theorem dX3_whyNotWrite_11 : decode cX3_whyNotWrite 11 = .ok (.if_icmp .lt 6, 3) := by decide +kernel
theorem dX3_whyNotWrite_14 : decode cX3_whyNotWrite 14 = .ok (.bipush (-4), 2) := by decide +kernel
theorem dX3_whyNotWrite_16 : decode cX3_whyNotWrite 16 = .ok (.ireturn, 1) := by decide +kernel
theorem dX3_whyNotWrite_17 : decode cX3_whyNotWrite 17 = .ok (.aload_n 0, 1) := by decide +kernel
theorem dX3_whyNotWrite_18 : decode cX3_whyNotWrite 18 = .ok (.getfield 12, 3) := by decide +kernel
theorem dX3_whyNotWrite_21 : decode cX3_whyNotWrite 21 = .ok (.iload_n 1, 1) := by decide +kernel
theorem dX3_whyNotWrite_22 : decode cX3_whyNotWrite 22 = .ok (.iload_n 2, 1) := by decide +kernel
theorem dX3_whyNotWrite_23 : decode cX3_whyNotWrite 23 = .ok (.invokevirtual 160, 3) := by decide +kernel
theorem dX3_whyNotWrite_26 : decode cX3_whyNotWrite 26 = .ok (.ifCond .eq 18, 3) := by decide +kernel
theorem dX3_whyNotWrite_29 : decode cX3_whyNotWrite 29 = .ok (.aload_n 0, 1) := by decide +kernel
theorem dX3_whyNotWrite_30 : decode cX3_whyNotWrite 30 = .ok (.getfield 12, 3) := by decide +kernel
theorem dX3_whyNotWrite_33 : decode cX3_whyNotWrite 33 = .ok (.getfield 167, 3) := by decide +kernel
theorem dX3_whyNotWrite_36 : decode cX3_whyNotWrite 36 = .ok (.ifCond .ne 8, 3) := by decide +kernel
theorem dX3_whyNotWrite_39 : decode cX3_whyNotWrite 39 = .ok (.bipush (-6), 2) := by decide +kernel
theorem dX3_whyNotWrite_41 : decode cX3_whyNotWrite 41 = .ok (.goto 4, 3) := by decide +kernel
theorem dX3_whyNotWrite_44 : decode cX3_whyNotWrite 44 = .ok (.iconst 0, 1) := by decide +kernel
theorem dX3_whyNotWrite_45 : decode cX3_whyNotWrite 45 = .ok (.ireturn, 1) := by decide +kernel
theorem dX3_takeInHand_0 : decode cX3_takeInHand 0 = .ok (.aload_n 0, 1) := by decide +kernel
theorem dX3_takeInHand_1 : decode cX3_takeInHand 1 = .ok (.iload_n 1, 1) := by decide +kernel
theorem dX3_takeInHand_2 : decode cX3_takeInHand 2 = .ok (.putfield 170, 3) := by decide +kernel
theorem dX3_takeInHand_5 : decode cX3_takeInHand 5 = .ok (.aload_n 0, 1) := by decide +kernel
theorem dX3_takeInHand_6 : decode cX3_takeInHand 6 = .ok (.iload_n 2, 1) := by decide +kernel
theorem dX3_takeInHand_7 : decode cX3_takeInHand 7 = .ok (.putfield 173, 3) := by decide +kernel
theorem dX3_takeInHand_10 : decode cX3_takeInHand 10 = .ok (.aload_n 0, 1) := by decide +kernel
theorem dX3_takeInHand_11 : decode cX3_takeInHand 11 = .ok (.iload_n 3, 1) := by decide +kernel
theorem dX3_takeInHand_12 : decode cX3_takeInHand 12 = .ok (.putfield 176, 3) := by decide +kernel
theorem dX3_takeInHand_15 : decode cX3_takeInHand 15 = .ok (.aload_n 0, 1) := by decide +kernel
theorem dX3_takeInHand_16 : decode cX3_takeInHand 16 = .ok (.iload 4, 2) := by decide +kernel
theorem dX3_takeInHand_18 : decode cX3_takeInHand 18 = .ok (.putfield 179, 3) := by decide +kernel
theorem dX3_takeInHand_21 : decode cX3_takeInHand 21 = .ok (.return_, 1) := by decide +kernel
theorem dX3_ask_0 : decode cX3_ask 0 = .ok (.aload_n 0, 1) := by decide +kernel
theorem dX3_ask_1 : decode cX3_ask 1 = .ok (.iload_n 2, 1) := by decide +kernel
theorem dX3_ask_2 : decode cX3_ask 2 = .ok (.putfield 182, 3) := by decide +kernel
theorem dX3_ask_5 : decode cX3_ask 5 = .ok (.aload_n 0, 1) := by decide +kernel
theorem dX3_ask_6 : decode cX3_ask 6 = .ok (.iconst 1, 1) := by decide +kernel
theorem dX3_ask_7 : decode cX3_ask 7 = .ok (.putfield 39, 3) := by decide +kernel
theorem dX3_ask_10 : decode cX3_ask 10 = .ok (.aload_n 1, 1) := by decide +kernel
theorem dX3_ask_11 : decode cX3_ask 11 = .ok (.iconst 2, 1) := by decide +kernel
theorem dX3_ask_12 : decode cX3_ask 12 = .ok (.iload_n 2, 1) := by decide +kernel
theorem dX3_ask_13 : decode cX3_ask 13 = .ok (.aload_n 0, 1) := by decide +kernel
theorem dX3_ask_14 : decode cX3_ask 14 = .ok (.getfield 151, 3) := by decide +kernel
theorem dX3_ask_17 : decode cX3_ask 17 = .ok (.iconst 0, 1) := by decide +kernel
theorem dX3_ask_18 : decode cX3_ask 18 = .ok (.invokevirtual 185, 3) := by decide +kernel
theorem dX3_ask_21 : decode cX3_ask 21 = .ok (.astore_n 3, 1) := by decide +kernel
theorem dX3_ask_22 : decode cX3_ask 22 = .ok (.aload_n 3, 1) := by decide +kernel
theorem dX3_ask_23 : decode cX3_ask 23 = .ok (.ifnonnull 4, 3) := by decide +kernel
theorem dX3_ask_26 : decode cX3_ask 26 = .ok (.return_, 1) := by decide +kernel
theorem dX3_ask_27 : decode cX3_ask 27 = .ok (.aload_n 3, 1) := by decide +kernel
theorem dX3_ask_28 : decode cX3_ask 28 = .ok (.aload_n 0, 1) := by decide +kernel
theorem dX3_ask_29 : decode cX3_ask 29 = .ok (.getfield 29, 3) := by decide +kernel
theorem dX3_ask_32 : decode cX3_ask 32 = .ok (.putfield 189, 3) := by decide +kernel
theorem dX3_ask_35 : decode cX3_ask 35 = .ok (.iload_n 2, 1) := by decide +kernel
theorem dX3_ask_36 : decode cX3_ask 36 = .ok (.bipush 21, 2) := by decide +kernel
theorem dX3_ask_38 : decode cX3_ask 38 = .ok (.if_icmp .ne 12, 3) := by decide +kernel
theorem dX3_ask_41 : decode cX3_ask 41 = .ok (.aload_n 3, 1) := by decide +kernel
theorem dX3_ask_42 : decode cX3_ask 42 = .ok (.aload_n 0, 1) := by decide +kernel
theorem dX3_ask_43 : decode cX3_ask 43 = .ok (.getfield 25, 3) := by decide +kernel
theorem dX3_ask_46 : decode cX3_ask 46 = .ok (.iconst 0, 1) := by decide +kernel
theorem dX3_ask_47 : decode cX3_ask 47 = .ok (.invokevirtual 192, 3) := by decide +kernel
theorem dX3_ask_50 : decode cX3_ask 50 = .ok (.aload_n 1, 1) := by decide +kernel
theorem dX3_ask_51 : decode cX3_ask 51 = .ok (.aload_n 3, 1) := by decide +kernel
theorem dX3_ask_52 : decode cX3_ask 52 = .ok (.iconst 1, 1) := by decide +kernel
theorem dX3_ask_53 : decode cX3_ask 53 = .ok (.invokevirtual 196, 3) := by decide +kernel
theorem dX3_ask_56 : decode cX3_ask 56 = .ok (.pop, 1) := by decide +kernel
theorem dX3_ask_57 : decode cX3_ask 57 = .ok (.return_, 1) := by decide +kernel
theorem dX3_hearOfLife_0 : decode cX3_hearOfLife 0 = .ok (.aload_n 0, 1) := by decide +kernel
theorem dX3_hearOfLife_1 : decode cX3_hearOfLife 1 = .ok (.iload_n 2, 1) := by decide +kernel
theorem dX3_hearOfLife_2 : decode cX3_hearOfLife 2 = .ok (.putfield 29, 3) := by decide +kernel
theorem dX3_hearOfLife_5 : decode cX3_hearOfLife 5 = .ok (.aload_n 0, 1) := by decide +kernel
theorem dX3_hearOfLife_6 : decode cX3_hearOfLife 6 = .ok (.getfield 39, 3) := by decide +kernel
theorem dX3_hearOfLife_9 : decode cX3_hearOfLife 9 = .ok (.ifCond .eq 12, 3) := by decide +kernel
theorem dX3_hearOfLife_12 : decode cX3_hearOfLife 12 = .ok (.aload_n 0, 1) := by decide +kernel
theorem dX3_hearOfLife_13 : decode cX3_hearOfLife 13 = .ok (.aload_n 1, 1) := by decide +kernel
theorem dX3_hearOfLife_14 : decode cX3_hearOfLife 14 = .ok (.aload_n 0, 1) := by decide +kernel
theorem dX3_hearOfLife_15 : decode cX3_hearOfLife 15 = .ok (.getfield 182, 3) := by decide +kernel
theorem dX3_hearOfLife_18 : decode cX3_hearOfLife 18 = .ok (.invokevirtual 154, 3) := by decide +kernel
theorem dX3_hearOfLife_21 : decode cX3_hearOfLife 21 = .ok (.return_, 1) := by decide +kernel
theorem dX3_goOn_0 : decode cX3_goOn 0 = .ok (.aload_n 0, 1) := by decide +kernel
theorem dX3_goOn_1 : decode cX3_goOn 1 = .ok (.getfield 39, 3) := by decide +kernel
theorem dX3_goOn_4 : decode cX3_goOn 4 = .ok (.ifCond .ne 4, 3) := by decide +kernel
theorem dX3_goOn_7 : decode cX3_goOn 7 = .ok (.return_, 1) := by decide +kernel
theorem dX3_goOn_8 : decode cX3_goOn 8 = .ok (.aload_n 0, 1) := by decide +kernel
theorem dX3_goOn_9 : decode cX3_goOn 9 = .ok (.getfield 21, 3) := by decide +kernel
theorem dX3_goOn_12 : decode cX3_goOn 12 = .ok (.aload_n 0, 1) := by decide +kernel
theorem dX3_goOn_13 : decode cX3_goOn 13 = .ok (.getfield 170, 3) := by decide +kernel
theorem dX3_goOn_16 : decode cX3_goOn 16 = .ok (.aload_n 0, 1) := by decide +kernel
theorem dX3_goOn_17 : decode cX3_goOn 17 = .ok (.getfield 173, 3) := by decide +kernel
theorem dX3_goOn_20 : decode cX3_goOn 20 = .ok (.invokevirtual 140, 3) := by decide +kernel
theorem dX3_goOn_23 : decode cX3_goOn 23 = .ok (.istore_n 3, 1) := by decide +kernel
theorem dX3_goOn_24 : decode cX3_goOn 24 = .ok (.iload_n 3, 1) := by decide +kernel
theorem dX3_goOn_25 : decode cX3_goOn 25 = .ok (.bipush 8, 2) := by decide +kernel
theorem dX3_goOn_27 : decode cX3_goOn 27 = .ok (.invokestatic 200, 3) := by decide +kernel
theorem dX3_goOn_30 : decode cX3_goOn 30 = .ok (.istore 4, 2) := by decide +kernel
theorem dX3_goOn_32 : decode cX3_goOn 32 = .ok (.aload_n 0, 1) := by decide +kernel
theorem dX3_goOn_33 : decode cX3_goOn 33 = .ok (.getfield 176, 3) := by decide +kernel
theorem dX3_goOn_36 : decode cX3_goOn 36 = .ok (.ifCond .ne 61, 3) := by decide +kernel
theorem dX3_goOn_39 : decode cX3_goOn 39 = .ok (.aload_n 0, 1) := by decide +kernel
theorem dX3_goOn_40 : decode cX3_goOn 40 = .ok (.getfield 182, 3) := by decide +kernel
theorem dX3_goOn_43 : decode cX3_goOn 43 = .ok (.bipush 20, 2) := by decide +kernel
theorem dX3_goOn_45 : decode cX3_goOn 45 = .ok (.if_icmp .ne 52, 3) := by decide +kernel
theorem dX3_goOn_48 : decode cX3_goOn 48 = .ok (.iconst 0, 1) := by decide +kernel
theorem dX3_goOn_49 : decode cX3_goOn 49 = .ok (.istore 5, 2) := by decide +kernel
theorem dX3_goOn_51 : decode cX3_goOn 51 = .ok (.iload 5, 2) := by decide +kernel
theorem dX3_goOn_53 : decode cX3_goOn 53 = .ok (.bipush 8, 2) := by decide +kernel
theorem dX3_goOn_55 : decode cX3_goOn 55 = .ok (.if_icmp .ge 34, 3) := by decide +kernel
theorem dX3_goOn_58 : decode cX3_goOn 58 = .ok (.aload_n 0, 1) := by decide +kernel
theorem dX3_goOn_59 : decode cX3_goOn 59 = .ok (.getfield 25, 3) := by decide +kernel
theorem dX3_goOn_62 : decode cX3_goOn 62 = .ok (.iload 5, 2) := by decide +kernel
theorem dX3_goOn_64 : decode cX3_goOn 64 = .ok (.iload 5, 2) := by decide +kernel
theorem dX3_goOn_66 : decode cX3_goOn 66 = .ok (.iload 4, 2) := by decide +kernel
theorem dX3_goOn_68 : decode cX3_goOn 68 = .ok (.if_icmp .ne 10, 3) := by decide +kernel
theorem dX3_goOn_71 : decode cX3_goOn 71 = .ok (.aload_n 0, 1) := by decide +kernel
theorem dX3_goOn_72 : decode cX3_goOn 72 = .ok (.getfield 179, 3) := by decide +kernel
theorem dX3_goOn_75 : decode cX3_goOn 75 = .ok (.goto 7, 3) := by decide +kernel
theorem dX3_goOn_78 : decode cX3_goOn 78 = .ok (.aload_n 2, 1) := by decide +kernel
theorem dX3_goOn_79 : decode cX3_goOn 79 = .ok (.iload 5, 2) := by decide +kernel
theorem dX3_goOn_81 : decode cX3_goOn 81 = .ok (.iaload, 1) := by decide +kernel
theorem dX3_goOn_82 : decode cX3_goOn 82 = .ok (.iastore, 1) := by decide +kernel
theorem dX3_goOn_83 : decode cX3_goOn 83 = .ok (.iinc 5 1, 3) := by decide +kernel
theorem dX3_goOn_86 : decode cX3_goOn 86 = .ok (.goto (-35), 3) := by decide +kernel
theorem dX3_goOn_89 : decode cX3_goOn 89 = .ok (.aload_n 0, 1) := by decide +kernel
theorem dX3_goOn_90 : decode cX3_goOn 90 = .ok (.aload_n 1, 1) := by decide +kernel
theorem dX3_goOn_91 : decode cX3_goOn 91 = .ok (.bipush 21, 2) := by decide +kernel
theorem dX3_goOn_93 : decode cX3_goOn 93 = .ok (.invokevirtual 154, 3) := by decide +kernel
theorem dX3_goOn_96 : decode cX3_goOn 96 = .ok (.return_, 1) := by decide +kernel
theorem dX3_goOn_97 : decode cX3_goOn 97 = .ok (.aload_n 0, 1) := by decide +kernel
theorem dX3_goOn_98 : decode cX3_goOn 98 = .ok (.iconst 0, 1) := by decide +kernel
theorem dX3_goOn_99 : decode cX3_goOn 99 = .ok (.putfield 39, 3) := by decide +kernel
theorem dX3_goOn_102 : decode cX3_goOn 102 = .ok (.aload_n 0, 1) := by decide +kernel
theorem dX3_goOn_103 : decode cX3_goOn 103 = .ok (.getfield 176, 3) := by decide +kernel
theorem dX3_goOn_106 : decode cX3_goOn 106 = .ok (.ifCond .ne 26, 3) := by decide +kernel
theorem dX3_goOn_109 : decode cX3_goOn 109 = .ok (.aload_n 0, 1) := by decide +kernel
theorem dX3_goOn_110 : decode cX3_goOn 110 = .ok (.getfield 12, 3) := by decide +kernel
theorem dX3_goOn_113 : decode cX3_goOn 113 = .ok (.aload_n 0, 1) := by decide +kernel
theorem dX3_goOn_114 : decode cX3_goOn 114 = .ok (.getfield 21, 3) := by decide +kernel
theorem dX3_goOn_117 : decode cX3_goOn 117 = .ok (.aload_n 0, 1) := by decide +kernel
theorem dX3_goOn_118 : decode cX3_goOn 118 = .ok (.getfield 170, 3) := by decide +kernel
theorem dX3_goOn_121 : decode cX3_goOn 121 = .ok (.aload_n 0, 1) := by decide +kernel
theorem dX3_goOn_122 : decode cX3_goOn 122 = .ok (.getfield 173, 3) := by decide +kernel
theorem dX3_goOn_125 : decode cX3_goOn 125 = .ok (.invokevirtual 107, 3) := by decide +kernel
theorem dX3_goOn_128 : decode cX3_goOn 128 = .ok (.iload_n 3, 1) := by decide +kernel
theorem dX3_goOn_129 : decode cX3_goOn 129 = .ok (.invokevirtual 205, 3) := by decide +kernel
theorem dX3_goOn_132 : decode cX3_goOn 132 = .ok (.aload_n 0, 1) := by decide +kernel
theorem dX3_goOn_133 : decode cX3_goOn 133 = .ok (.getfield 21, 3) := by decide +kernel
theorem dX3_goOn_136 : decode cX3_goOn 136 = .ok (.aload_n 0, 1) := by decide +kernel
theorem dX3_goOn_137 : decode cX3_goOn 137 = .ok (.getfield 170, 3) := by decide +kernel
theorem dX3_goOn_140 : decode cX3_goOn 140 = .ok (.aload_n 0, 1) := by decide +kernel
theorem dX3_goOn_141 : decode cX3_goOn 141 = .ok (.getfield 173, 3) := by decide +kernel
theorem dX3_goOn_144 : decode cX3_goOn 144 = .ok (.iload_n 3, 1) := by decide +kernel
theorem dX3_goOn_145 : decode cX3_goOn 145 = .ok (.iconst 1, 1) := by decide +kernel
theorem dX3_goOn_146 : decode cX3_goOn 146 = .ok (.iadd, 1) := by decide +kernel
theorem dX3_goOn_147 : decode cX3_goOn 147 = .ok (.invokevirtual 117, 3) := by decide +kernel
theorem dX3_goOn_150 : decode cX3_goOn 150 = .ok (.aload_n 1, 1) := by decide +kernel
theorem dX3_goOn_151 : decode cX3_goOn 151 = .ok (.iconst 2, 1) := by decide +kernel
theorem dX3_goOn_152 : decode cX3_goOn 152 = .ok (.aload_n 0, 1) := by decide +kernel
theorem dX3_goOn_153 : decode cX3_goOn 153 = .ok (.getfield 170, 3) := by decide +kernel
theorem dX3_goOn_156 : decode cX3_goOn 156 = .ok (.bipush 50, 2) := by decide +kernel
theorem dX3_goOn_158 : decode cX3_goOn 158 = .ok (.aload_n 0, 1) := by decide +kernel
theorem dX3_goOn_159 : decode cX3_goOn 159 = .ok (.getfield 176, 3) := by decide +kernel
theorem dX3_goOn_162 : decode cX3_goOn 162 = .ok (.ifCond .eq 10, 3) := by decide +kernel
theorem dX3_goOn_165 : decode cX3_goOn 165 = .ok (.aload_n 2, 1) := by decide +kernel
theorem dX3_goOn_166 : decode cX3_goOn 166 = .ok (.iload 4, 2) := by decide +kernel
theorem dX3_goOn_168 : decode cX3_goOn 168 = .ok (.iaload, 1) := by decide +kernel
theorem dX3_goOn_169 : decode cX3_goOn 169 = .ok (.goto 4, 3) := by decide +kernel
theorem dX3_goOn_172 : decode cX3_goOn 172 = .ok (.iconst 0, 1) := by decide +kernel
theorem dX3_goOn_173 : decode cX3_goOn 173 = .ok (.iconst 0, 1) := by decide +kernel
theorem dX3_goOn_174 : decode cX3_goOn 174 = .ok (.invokevirtual 68, 3) := by decide +kernel
theorem dX3_goOn_177 : decode cX3_goOn 177 = .ok (.return_, 1) := by decide +kernel
end
section
theorem dX4_init_0 : decode cX4_init 0 = .ok (.aload_n 0, 1) := by decide +kernel
theorem dX4_init_1 : decode cX4_init 1 = .ok (.invokespecial 3, 3) := by decide +kernel
theorem dX4_init_4 : decode cX4_init 4 = .ok (.aload_n 0, 1) := by decide +kernel
theorem dX4_init_5 : decode cX4_init 5 = .ok (.bipush 16, 2) := by decide +kernel
theorem dX4_init_7 : decode cX4_init 7 = .ok (.newarray .boolean, 2) := by decide +kernel
theorem dX4_init_9 : decode cX4_init 9 = .ok (.putfield 9, 3) := by decide +kernel
theorem dX4_init_12 : decode cX4_init 12 = .ok (.aload_n 0, 1) := by decide +kernel
theorem dX4_init_13 : decode cX4_init 13 = .ok (.bipush 16, 2) := by decide +kernel
theorem dX4_init_15 : decode cX4_init 15 = .ok (.newarray .int, 2) := by decide +kernel
theorem dX4_init_17 : decode cX4_init 17 = .ok (.putfield 15, 3) := by decide +kernel
theorem dX4_init_20 : decode cX4_init 20 = .ok (.aload_n 0, 1) := by decide +kernel
theorem dX4_init_21 : decode cX4_init 21 = .ok (.bipush 64, 2) := by decide +kernel
theorem dX4_init_23 : decode cX4_init 23 = .ok (.newarray .int, 2) := by decide +kernel
theorem dX4_init_25 : decode cX4_init 25 = .ok (.putfield 19, 3) := by decide +kernel
theorem dX4_init_28 : decode cX4_init 28 = .ok (.aload_n 0, 1) := by decide +kernel
theorem dX4_init_29 : decode cX4_init 29 = .ok (.bipush 24, 2) := by decide +kernel
theorem dX4_init_31 : decode cX4_init 31 = .ok (.newarray .boolean, 2) := by decide +kernel
theorem dX4_init_33 : decode cX4_init 33 = .ok (.putfield 22, 3) := by decide +kernel
theorem dX4_init_36 : decode cX4_init 36 = .ok (.aload_n 0, 1) := by decide +kernel
theorem dX4_init_37 : decode cX4_init 37 = .ok (.bipush 24, 2) := by decide +kernel
theorem dX4_init_39 : decode cX4_init 39 = .ok (.putfield 25, 3) := by decide +kernel
theorem dX4_init_42 : decode cX4_init 42 = .ok (.return_, 1) := by decide +kernel
theorem dX4_has_0 : decode cX4_has 0 = .ok (.iload_n 1, 1) := by decide +kernel
theorem dX4_has_1 : decode cX4_has 1 = .ok (.ifCond .lt 22, 3) := by decide +kernel
theorem dX4_has_4 : decode cX4_has 4 = .ok (.iload_n 1, 1) := by decide +kernel
theorem dX4_has_5 : decode cX4_has 5 = .ok (.bipush 16, 2) := by decide +kernel
theorem dX4_has_7 : decode cX4_has 7 = .ok (.if_icmp .ge 16, 3) := by decide +kernel
theorem dX4_has_10 : decode cX4_has 10 = .ok (.aload_n 0, 1) := by decide +kernel
theorem dX4_has_11 : decode cX4_has 11 = .ok (.getfield 9, 3) := by decide +kernel
theorem dX4_has_14 : decode cX4_has 14 = .ok (.iload_n 1, 1) := by decide +kernel
theorem dX4_has_15 : decode cX4_has 15 = .ok (.baload, 1) := by decide +kernel
theorem dX4_has_16 : decode cX4_has 16 = .ok (.ifCond .eq 7, 3) := by decide +kernel
theorem dX4_has_19 : decode cX4_has 19 = .ok (.iconst 1, 1) := by decide +kernel
theorem dX4_has_20 : decode cX4_has 20 = .ok (.goto 4, 3) := by decide +kernel
theorem dX4_has_23 : decode cX4_has 23 = .ok (.iconst 0, 1) := by decide +kernel
theorem dX4_has_24 : decode cX4_has 24 = .ok (.ireturn, 1) := by decide +kernel
theorem dX4_sizeOf_0 : decode cX4_sizeOf 0 = .ok (.aload_n 0, 1) := by decide +kernel
theorem dX4_sizeOf_1 : decode cX4_sizeOf 1 = .ok (.iload_n 1, 1) := by decide +kernel
theorem dX4_sizeOf_2 : decode cX4_sizeOf 2 = .ok (.invokevirtual 29, 3) := by decide +kernel
theorem dX4_sizeOf_5 : decode cX4_sizeOf 5 = .ok (.ifCond .eq 12, 3) := by decide +kernel
theorem dX4_sizeOf_8 : decode cX4_sizeOf 8 = .ok (.aload_n 0, 1) := by decide +kernel
theorem dX4_sizeOf_9 : decode cX4_sizeOf 9 = .ok (.getfield 15, 3) := by decide +kernel
theorem dX4_sizeOf_12 : decode cX4_sizeOf 12 = .ok (.iload_n 1, 1) := by decide +kernel
theorem dX4_sizeOf_13 : decode cX4_sizeOf 13 = .ok (.iaload, 1) := by decide +kernel
theorem dX4_sizeOf_14 : decode cX4_sizeOf 14 = .ok (.goto 4, 3) := by decide +kernel
theorem dX4_sizeOf_17 : decode cX4_sizeOf 17 = .ok (.iconst (-1), 1) := by decide +kernel
theorem dX4_sizeOf_18 : decode cX4_sizeOf 18 = .ok (.ireturn, 1) := by decide +kernel
theorem dX4_blockOf_0 : decode cX4_blockOf 0 = .ok (.aload_n 0, 1) := by decide +kernel
theorem dX4_blockOf_1 : decode cX4_blockOf 1 = .ok (.iload_n 1, 1) := by decide +kernel
theorem dX4_blockOf_2 : decode cX4_blockOf 2 = .ok (.invokevirtual 29, 3) := by decide +kernel
theorem dX4_blockOf_5 : decode cX4_blockOf 5 = .ok (.ifCond .eq 33, 3) := by decide +kernel
theorem dX4_blockOf_8 : decode cX4_blockOf 8 = .ok (.lload_n 2, 1) := by decide +kernel
theorem dX4_blockOf_9 : decode cX4_blockOf 9 = .ok (.lconst 0, 1) := by decide +kernel
theorem dX4_blockOf_10 : decode cX4_blockOf 10 = .ok (.lcmp, 1) := by decide +kernel
theorem dX4_blockOf_11 : decode cX4_blockOf 11 = .ok (.ifCond .lt 27, 3) := by decide +kernel
theorem dX4_blockOf_14 : decode cX4_blockOf 14 = .ok (.lload_n 2, 1) := by decide +kernel
theorem dX4_blockOf_15 : decode cX4_blockOf 15 = .ok (.ldc2_w 33, 3) := by decide +kernel
theorem dX4_blockOf_18 : decode cX4_blockOf 18 = .ok (.lcmp, 1) := by decide +kernel
theorem dX4_blockOf_19 : decode cX4_blockOf 19 = .ok (.ifCond .ge 19, 3) := by decide +kernel
theorem dX4_blockOf_22 : decode cX4_blockOf 22 = .ok (.lload_n 2, 1) := by decide +kernel
theorem dX4_blockOf_23 : decode cX4_blockOf 23 = .ok (.ldc2_w 35, 3) := by decide +kernel
theorem dX4_blockOf_26 : decode cX4_blockOf 26 = .ok (.lmul, 1) := by decide +kernel
theorem dX4_blockOf_27 : decode cX4_blockOf 27 = .ok (.aload_n 0, 1) := by decide +kernel
theorem dX4_blockOf_28 : decode cX4_blockOf 28 = .ok (.getfield 15, 3) := by decide +kernel
theorem dX4_blockOf_31 : decode cX4_blockOf 31 = .ok (.iload_n 1, 1) := by decide +kernel
theorem dX4_blockOf_32 : decode cX4_blockOf 32 = .ok (.iaload, 1) := by decide +kernel
theorem dX4_blockOf_33 : decode cX4_blockOf 33 = .ok (.i2l, 1) := by decide +kernel
theorem dX4_blockOf_34 : decode cX4_blockOf 34 = .ok (.lcmp, 1) := by decide +kernel
theorem dX4_blockOf_35 : decode cX4_blockOf 35 = .ok (.ifCond .lt 5, 3) := by decide +kernel
theorem dX4_blockOf_38 : decode cX4_blockOf 38 = .ok (.iconst (-1), 1) := by decide +kernel
theorem dX4_blockOf_39 : decode cX4_blockOf 39 = .ok (.ireturn, 1) := by decide +kernel
theorem dX4_blockOf_40 : decode cX4_blockOf 40 = .ok (.aload_n 0, 1) := by decide +kernel
theorem dX4_blockOf_41 : decode cX4_blockOf 41 = .ok (.getfield 19, 3) := by decide +kernel
theorem dX4_blockOf_44 : decode cX4_blockOf 44 = .ok (.iload_n 1, 1) := by decide +kernel
theorem dX4_blockOf_45 : decode cX4_blockOf 45 = .ok (.iconst 4, 1) := by decide +kernel
theorem dX4_blockOf_46 : decode cX4_blockOf 46 = .ok (.imul, 1) := by decide +kernel
theorem dX4_blockOf_47 : decode cX4_blockOf 47 = .ok (.lload_n 2, 1) := by decide +kernel
theorem dX4_blockOf_48 : decode cX4_blockOf 48 = .ok (.l2i, 1) := by decide +kernel
theorem dX4_blockOf_49 : decode cX4_blockOf 49 = .ok (.iadd, 1) := by decide +kernel
theorem dX4_blockOf_50 : decode cX4_blockOf 50 = .ok (.iaload, 1) := by decide +kernel
theorem dX4_blockOf_51 : decode cX4_blockOf 51 = .ok (.ireturn, 1) := by decide +kernel
theorem dX4_make_0 : decode cX4_make 0 = .ok (.iload_n 1, 1) := by decide +kernel
theorem dX4_make_1 : decode cX4_make 1 = .ok (.ifCond .lt 42, 3) := by decide +kernel
theorem dX4_make_4 : decode cX4_make 4 = .ok (.iload_n 1, 1) := by decide +kernel
theorem dX4_make_5 : decode cX4_make 5 = .ok (.bipush 16, 2) := by decide +kernel
theorem dX4_make_7 : decode cX4_make 7 = .ok (.if_icmp .ge 36, 3) := by decide +kernel
theorem dX4_make_10 : decode cX4_make 10 = .ok (.aload_n 0, 1) := by decide +kernel
theorem dX4_make_11 : decode cX4_make 11 = .ok (.getfield 9, 3) := by decide +kernel
theorem dX4_make_14 : decode cX4_make 14 = .ok (.iload_n 1, 1) := by decide +kernel
theorem dX4_make_15 : decode cX4_make 15 = .ok (.baload, 1) := by decide +kernel
theorem dX4_make_16 : decode cX4_make 16 = .ok (.ifCond .ne 27, 3) := by decide +kernel
theorem dX4_make_19 : decode cX4_make 19 = .ok (.aload_n 0, 1) := by decide +kernel
theorem dX4_make_20 : decode cX4_make 20 = .ok (.getfield 9, 3) := by decide +kernel
theorem dX4_make_23 : decode cX4_make 23 = .ok (.iload_n 1, 1) := by decide +kernel
theorem dX4_make_24 : decode cX4_make 24 = .ok (.iconst 1, 1) := by decide +kernel
theorem dX4_make_25 : decode cX4_make 25 = .ok (.bastore, 1) := by decide +kernel
theorem dX4_make_26 : decode cX4_make 26 = .ok (.aload_n 0, 1) := by decide +kernel
theorem dX4_make_27 : decode cX4_make 27 = .ok (.getfield 15, 3) := by decide +kernel
theorem dX4_make_30 : decode cX4_make 30 = .ok (.iload_n 1, 1) := by decide +kernel
theorem dX4_make_31 : decode cX4_make 31 = .ok (.iconst 0, 1) := by decide +kernel
theorem dX4_make_32 : decode cX4_make 32 = .ok (.iastore, 1) := by decide +kernel
theorem dX4_make_33 : decode cX4_make 33 = .ok (.aload_n 0, 1) := by decide +kernel
theorem dX4_make_34 : decode cX4_make 34 = .ok (.dup, 1) := by decide +kernel
theorem dX4_make_35 : decode cX4_make 35 = .ok (.getfield 37, 3) := by decide +kernel
theorem dX4_make_38 : decode cX4_make 38 = .ok (.iconst 1, 1) := by decide +kernel
theorem dX4_make_39 : decode cX4_make 39 = .ok (.iadd, 1) := by decide +kernel
theorem dX4_make_40 : decode cX4_make 40 = .ok (.putfield 37, 3) := by decide +kernel
theorem dX4_make_43 : decode cX4_make 43 = .ok (.return_, 1) := by decide +kernel
theorem dX4_discard_0 : decode cX4_discard 0 = .ok (.aload_n 0, 1) := by decide +kernel
theorem dX4_discard_1 : decode cX4_discard 1 = .ok (.iload_n 1, 1) := by decide +kernel
theorem dX4_discard_2 : decode cX4_discard 2 = .ok (.invokevirtual 29, 3) := by decide +kernel
theorem dX4_discard_5 : decode cX4_discard 5 = .ok (.ifCond .ne 4, 3) := by decide +kernel
theorem dX4_discard_8 : decode cX4_discard 8 = .ok (.return_, 1) := by decide +kernel
theorem dX4_discard_9 : decode cX4_discard 9 = .ok (.iconst 0, 1) := by decide +kernel
theorem dX4_discard_10 : decode cX4_discard 10 = .ok (.istore_n 2, 1) := by decide +kernel
theorem dX4_discard_11 : decode cX4_discard 11 = .ok (.iload_n 2, 1) := by decide +kernel
theorem dX4_discard_12 : decode cX4_discard 12 = .ok (.iconst 4, 1) := by decide +kernel
theorem dX4_discard_13 : decode cX4_discard 13 = .ok (.if_icmp .ge 36, 3) := by decide +kernel
theorem dX4_discard_16 : decode cX4_discard 16 = .ok (.iload_n 2, 1) := by decide +kernel
theorem dX4_discard_17 : decode cX4_discard 17 = .ok (.bipush 8, 2) := by decide +kernel
theorem dX4_discard_19 : decode cX4_discard 19 = .ok (.imul, 1) := by decide +kernel
theorem dX4_discard_20 : decode cX4_discard 20 = .ok (.aload_n 0, 1) := by decide +kernel
theorem dX4_discard_21 : decode cX4_discard 21 = .ok (.getfield 15, 3) := by decide +kernel
theorem dX4_discard_24 : decode cX4_discard 24 = .ok (.iload_n 1, 1) := by decide +kernel
theorem dX4_discard_25 : decode cX4_discard 25 = .ok (.iaload, 1) := by decide +kernel
theorem dX4_discard_26 : decode cX4_discard 26 = .ok (.if_icmp .ge 23, 3) := by decide +kernel
theorem dX4_discard_29 : decode cX4_discard 29 = .ok (.aload_n 0, 1) := by decide +kernel
theorem dX4_discard_30 : decode cX4_discard 30 = .ok (.aload_n 0, 1) := by decide +kernel
theorem dX4_discard_31 : decode cX4_discard 31 = .ok (.getfield 19, 3) := by decide +kernel
theorem dX4_discard_34 : decode cX4_discard 34 = .ok (.iload_n 1, 1) := by decide +kernel
theorem dX4_discard_35 : decode cX4_discard 35 = .ok (.iconst 4, 1) := by decide +kernel
theorem dX4_discard_36 : decode cX4_discard 36 = .ok (.imul, 1) := by decide +kernel
theorem dX4_discard_37 : decode cX4_discard 37 = .ok (.iload_n 2, 1) := by decide +kernel
theorem dX4_discard_38 : decode cX4_discard 38 = .ok (.iadd, 1) := by decide +kernel
theorem dX4_discard_39 : decode cX4_discard 39 = .ok (.iaload, 1) := by decide +kernel
theorem dX4_discard_40 : decode cX4_discard 40 = .ok (.invokevirtual 40, 3) := by decide +kernel
theorem dX4_discard_43 : decode cX4_discard 43 = .ok (.iinc 2 1, 3) := by decide +kernel
theorem dX4_discard_46 : decode cX4_discard 46 = .ok (.goto (-35), 3) := by decide +kernel
theorem dX4_discard_49 : decode cX4_discard 49 = .ok (.aload_n 0, 1) := by decide +kernel
theorem dX4_discard_50 : decode cX4_discard 50 = .ok (.getfield 9, 3) := by decide +kernel
theorem dX4_discard_53 : decode cX4_discard 53 = .ok (.iload_n 1, 1) := by decide +kernel
theorem dX4_discard_54 : decode cX4_discard 54 = .ok (.iconst 0, 1) := by decide +kernel
theorem dX4_discard_55 : decode cX4_discard 55 = .ok (.bastore, 1) := by decide +kernel
theorem dX4_discard_56 : decode cX4_discard 56 = .ok (.aload_n 0, 1) := by decide +kernel
theorem dX4_discard_57 : decode cX4_discard 57 = .ok (.dup, 1) := by decide +kernel
theorem dX4_discard_58 : decode cX4_discard 58 = .ok (.getfield 37, 3) := by decide +kernel
theorem dX4_discard_61 : decode cX4_discard 61 = .ok (.iconst 1, 1) := by decide +kernel
theorem dX4_discard_62 : decode cX4_discard 62 = .ok (.isub, 1) := by decide +kernel
theorem dX4_discard_63 : decode cX4_discard 63 = .ok (.putfield 37, 3) := by decide +kernel
theorem dX4_discard_66 : decode cX4_discard 66 = .ok (.return_, 1) := by decide +kernel
theorem dX4_release_0 : decode cX4_release 0 = .ok (.iload_n 1, 1) := by decide +kernel
theorem dX4_release_1 : decode cX4_release 1 = .ok (.ifCond .lt 35, 3) := by decide +kernel
theorem dX4_release_4 : decode cX4_release 4 = .ok (.iload_n 1, 1) := by decide +kernel
theorem dX4_release_5 : decode cX4_release 5 = .ok (.bipush 24, 2) := by decide +kernel
theorem dX4_release_7 : decode cX4_release 7 = .ok (.if_icmp .ge 29, 3) := by decide +kernel
theorem dX4_release_10 : decode cX4_release 10 = .ok (.aload_n 0, 1) := by decide +kernel
theorem dX4_release_11 : decode cX4_release 11 = .ok (.getfield 22, 3) := by decide +kernel
theorem dX4_release_14 : decode cX4_release 14 = .ok (.iload_n 1, 1) := by decide +kernel
theorem dX4_release_15 : decode cX4_release 15 = .ok (.baload, 1) := by decide +kernel
theorem dX4_release_16 : decode cX4_release 16 = .ok (.ifCond .eq 20, 3) := by decide +kernel
theorem dX4_release_19 : decode cX4_release 19 = .ok (.aload_n 0, 1) := by decide +kernel
theorem dX4_release_20 : decode cX4_release 20 = .ok (.getfield 22, 3) := by decide +kernel
theorem dX4_release_23 : decode cX4_release 23 = .ok (.iload_n 1, 1) := by decide +kernel
theorem dX4_release_24 : decode cX4_release 24 = .ok (.iconst 0, 1) := by decide +kernel
theorem dX4_release_25 : decode cX4_release 25 = .ok (.bastore, 1) := by decide +kernel
theorem dX4_release_26 : decode cX4_release 26 = .ok (.aload_n 0, 1) := by decide +kernel
theorem dX4_release_27 : decode cX4_release 27 = .ok (.dup, 1) := by decide +kernel
theorem dX4_release_28 : decode cX4_release 28 = .ok (.getfield 25, 3) := by decide +kernel
theorem dX4_release_31 : decode cX4_release 31 = .ok (.iconst 1, 1) := by decide +kernel
theorem dX4_release_32 : decode cX4_release 32 = .ok (.iadd, 1) := by decide +kernel
theorem dX4_release_33 : decode cX4_release 33 = .ok (.putfield 25, 3) := by decide +kernel
theorem dX4_release_36 : decode cX4_release 36 = .ok (.return_, 1) := by decide +kernel
theorem dX4_needsBlock_0 : decode cX4_needsBlock 0 = .ok (.aload_n 0, 1) := by decide +kernel
theorem dX4_needsBlock_1 : decode cX4_needsBlock 1 = .ok (.iload_n 1, 1) := by decide +kernel
theorem dX4_needsBlock_2 : decode cX4_needsBlock 2 = .ok (.invokevirtual 29, 3) := by decide +kernel
theorem dX4_needsBlock_5 : decode cX4_needsBlock 5 = .ok (.ifCond .eq 24, 3) := by decide +kernel
theorem dX4_needsBlock_8 : decode cX4_needsBlock 8 = .ok (.iload_n 2, 1) := by decide +kernel
theorem dX4_needsBlock_9 : decode cX4_needsBlock 9 = .ok (.aload_n 0, 1) := by decide +kernel
theorem dX4_needsBlock_10 : decode cX4_needsBlock 10 = .ok (.getfield 15, 3) := by decide +kernel
theorem dX4_needsBlock_13 : decode cX4_needsBlock 13 = .ok (.iload_n 1, 1) := by decide +kernel
theorem dX4_needsBlock_14 : decode cX4_needsBlock 14 = .ok (.iaload, 1) := by decide +kernel
theorem dX4_needsBlock_15 : decode cX4_needsBlock 15 = .ok (.if_icmp .ne 14, 3) := by decide +kernel
theorem dX4_needsBlock_18 : decode cX4_needsBlock 18 = .ok (.iload_n 2, 1) := by decide +kernel
theorem dX4_needsBlock_19 : decode cX4_needsBlock 19 = .ok (.bipush 8, 2) := by decide +kernel
theorem dX4_needsBlock_21 : decode cX4_needsBlock 21 = .ok (.irem, 1) := by decide +kernel
theorem dX4_needsBlock_22 : decode cX4_needsBlock 22 = .ok (.ifCond .ne 7, 3) := by decide +kernel
theorem dX4_needsBlock_25 : decode cX4_needsBlock 25 = .ok (.iconst 1, 1) := by decide +kernel
theorem dX4_needsBlock_26 : decode cX4_needsBlock 26 = .ok (.goto 4, 3) := by decide +kernel
theorem dX4_needsBlock_29 : decode cX4_needsBlock 29 = .ok (.iconst 0, 1) := by decide +kernel
theorem dX4_needsBlock_30 : decode cX4_needsBlock 30 = .ok (.ireturn, 1) := by decide +kernel
theorem dX4_takeBlock_0 : decode cX4_takeBlock 0 = .ok (.aload_n 0, 1) := by decide +kernel
theorem dX4_takeBlock_1 : decode cX4_takeBlock 1 = .ok (.iload_n 1, 1) := by decide +kernel
theorem dX4_takeBlock_2 : decode cX4_takeBlock 2 = .ok (.invokevirtual 29, 3) := by decide +kernel
theorem dX4_takeBlock_5 : decode cX4_takeBlock 5 = .ok (.ifCond .eq 13, 3) := by decide +kernel
theorem dX4_takeBlock_8 : decode cX4_takeBlock 8 = .ok (.iload_n 2, 1) := by decide +kernel
theorem dX4_takeBlock_9 : decode cX4_takeBlock 9 = .ok (.ifCond .lt 9, 3) := by decide +kernel
theorem dX4_takeBlock_12 : decode cX4_takeBlock 12 = .ok (.iload_n 2, 1) := by decide +kernel
theorem dX4_takeBlock_13 : decode cX4_takeBlock 13 = .ok (.bipush 32, 2) := by decide +kernel
theorem dX4_takeBlock_15 : decode cX4_takeBlock 15 = .ok (.if_icmp .lt 5, 3) := by decide +kernel
theorem dX4_takeBlock_18 : decode cX4_takeBlock 18 = .ok (.iconst (-1), 1) := by decide +kernel
theorem dX4_takeBlock_19 : decode cX4_takeBlock 19 = .ok (.ireturn, 1) := by decide +kernel
theorem dX4_takeBlock_20 : decode cX4_takeBlock 20 = .ok (.iconst 0, 1) := by decide +kernel
theorem dX4_takeBlock_21 : decode cX4_takeBlock 21 = .ok (.istore_n 3, 1) := by decide +kernel
theorem dX4_takeBlock_22 : decode cX4_takeBlock 22 = .ok (.iload_n 3, 1) := by decide +kernel
theorem dX4_takeBlock_23 : decode cX4_takeBlock 23 = .ok (.bipush 24, 2) := by decide +kernel
theorem dX4_takeBlock_25 : decode cX4_takeBlock 25 = .ok (.if_icmp .ge 51, 3) := by decide +kernel
theorem dX4_takeBlock_28 : decode cX4_takeBlock 28 = .ok (.aload_n 0, 1) := by decide +kernel
theorem dX4_takeBlock_29 : decode cX4_takeBlock 29 = .ok (.getfield 22, 3) := by decide +kernel
theorem dX4_takeBlock_32 : decode cX4_takeBlock 32 = .ok (.iload_n 3, 1) := by decide +kernel
theorem dX4_takeBlock_33 : decode cX4_takeBlock 33 = .ok (.baload, 1) := by decide +kernel
theorem dX4_takeBlock_34 : decode cX4_takeBlock 34 = .ok (.ifCond .ne 36, 3) := by decide +kernel
theorem dX4_takeBlock_37 : decode cX4_takeBlock 37 = .ok (.aload_n 0, 1) := by decide +kernel
theorem dX4_takeBlock_38 : decode cX4_takeBlock 38 = .ok (.getfield 22, 3) := by decide +kernel
theorem dX4_takeBlock_41 : decode cX4_takeBlock 41 = .ok (.iload_n 3, 1) := by decide +kernel
theorem dX4_takeBlock_42 : decode cX4_takeBlock 42 = .ok (.iconst 1, 1) := by decide +kernel
theorem dX4_takeBlock_43 : decode cX4_takeBlock 43 = .ok (.bastore, 1) := by decide +kernel
theorem dX4_takeBlock_44 : decode cX4_takeBlock 44 = .ok (.aload_n 0, 1) := by decide +kernel
theorem dX4_takeBlock_45 : decode cX4_takeBlock 45 = .ok (.dup, 1) := by decide +kernel
theorem dX4_takeBlock_46 : decode cX4_takeBlock 46 = .ok (.getfield 25, 3) := by decide +kernel
theorem dX4_takeBlock_49 : decode cX4_takeBlock 49 = .ok (.iconst 1, 1) := by decide +kernel
theorem dX4_takeBlock_50 : decode cX4_takeBlock 50 = .ok (.isub, 1) := by decide +kernel
theorem dX4_takeBlock_51 : decode cX4_takeBlock 51 = .ok (.putfield 25, 3) := by decide +kernel
theorem dX4_takeBlock_54 : decode cX4_takeBlock 54 = .ok (.aload_n 0, 1) := by decide +kernel
theorem dX4_takeBlock_55 : decode cX4_takeBlock 55 = .ok (.getfield 19, 3) := by decide +kernel
theorem dX4_takeBlock_58 : decode cX4_takeBlock 58 = .ok (.iload_n 1, 1) := by decide +kernel
theorem dX4_takeBlock_59 : decode cX4_takeBlock 59 = .ok (.iconst 4, 1) := by decide +kernel
theorem dX4_takeBlock_60 : decode cX4_takeBlock 60 = .ok (.imul, 1) := by decide +kernel
theorem dX4_takeBlock_61 : decode cX4_takeBlock 61 = .ok (.iload_n 2, 1) := by decide +kernel
theorem dX4_takeBlock_62 : decode cX4_takeBlock 62 = .ok (.bipush 8, 2) := by decide +kernel
theorem dX4_takeBlock_64 : decode cX4_takeBlock 64 = .ok (.idiv, 1) := by decide +kernel
theorem dX4_takeBlock_65 : decode cX4_takeBlock 65 = .ok (.iadd, 1) := by decide +kernel
theorem dX4_takeBlock_66 : decode cX4_takeBlock 66 = .ok (.iload_n 3, 1) := by decide +kernel
theorem dX4_takeBlock_67 : decode cX4_takeBlock 67 = .ok (.iastore, 1) := by decide +kernel
theorem dX4_takeBlock_68 : decode cX4_takeBlock 68 = .ok (.iload_n 3, 1) := by decide +kernel
theorem dX4_takeBlock_69 : decode cX4_takeBlock 69 = .ok (.ireturn, 1) := by decide +kernel
theorem dX4_takeBlock_70 : decode cX4_takeBlock 70 = .ok (.iinc 3 1, 3) := by decide +kernel
theorem dX4_takeBlock_73 : decode cX4_takeBlock 73 = .ok (.goto (-51), 3) := by decide +kernel
theorem dX4_takeBlock_76 : decode cX4_takeBlock 76 = .ok (.iconst (-1), 1) := by decide +kernel
theorem dX4_takeBlock_77 : decode cX4_takeBlock 77 = .ok (.ireturn, 1) := by decide +kernel
theorem dX4_growOver_0 : decode cX4_growOver 0 = .ok (.aload_n 0, 1) := by decide +kernel
theorem dX4_growOver_1 : decode cX4_growOver 1 = .ok (.iload_n 1, 1) := by decide +kernel
theorem dX4_growOver_2 : decode cX4_growOver 2 = .ok (.invokevirtual 29, 3) := by decide +kernel
theorem dX4_growOver_5 : decode cX4_growOver 5 = .ok (.ifCond .eq 28, 3) := by decide +kernel
theorem dX4_growOver_8 : decode cX4_growOver 8 = .ok (.iload_n 2, 1) := by decide +kernel
theorem dX4_growOver_9 : decode cX4_growOver 9 = .ok (.aload_n 0, 1) := by decide +kernel
theorem dX4_growOver_10 : decode cX4_growOver 10 = .ok (.getfield 15, 3) := by decide +kernel
theorem dX4_growOver_13 : decode cX4_growOver 13 = .ok (.iload_n 1, 1) := by decide +kernel
theorem dX4_growOver_14 : decode cX4_growOver 14 = .ok (.iaload, 1) := by decide +kernel
theorem dX4_growOver_15 : decode cX4_growOver 15 = .ok (.if_icmp .ne 18, 3) := by decide +kernel
theorem dX4_growOver_18 : decode cX4_growOver 18 = .ok (.iload_n 2, 1) := by decide +kernel
theorem dX4_growOver_19 : decode cX4_growOver 19 = .ok (.bipush 32, 2) := by decide +kernel
theorem dX4_growOver_21 : decode cX4_growOver 21 = .ok (.if_icmp .ge 12, 3) := by decide +kernel
theorem dX4_growOver_24 : decode cX4_growOver 24 = .ok (.aload_n 0, 1) := by decide +kernel
theorem dX4_growOver_25 : decode cX4_growOver 25 = .ok (.getfield 15, 3) := by decide +kernel
theorem dX4_growOver_28 : decode cX4_growOver 28 = .ok (.iload_n 1, 1) := by decide +kernel
theorem dX4_growOver_29 : decode cX4_growOver 29 = .ok (.iload_n 2, 1) := by decide +kernel
theorem dX4_growOver_30 : decode cX4_growOver 30 = .ok (.iconst 1, 1) := by decide +kernel
theorem dX4_growOver_31 : decode cX4_growOver 31 = .ok (.iadd, 1) := by decide +kernel
theorem dX4_growOver_32 : decode cX4_growOver 32 = .ok (.iastore, 1) := by decide +kernel
theorem dX4_growOver_33 : decode cX4_growOver 33 = .ok (.return_, 1) := by decide +kernel
end
section
theorem dX5_init_0 : decode cX5_init 0 = .ok (.aload_n 0, 1) := by decide +kernel
theorem dX5_init_1 : decode cX5_init 1 = .ok (.invokespecial 3, 3) := by decide +kernel
theorem dX5_init_4 : decode cX5_init 4 = .ok (.return_, 1) := by decide +kernel
theorem dX5_takeTurn_0 : decode cX5_takeTurn 0 = .ok (.aload_n 1, 1) := by decide +kernel
theorem dX5_takeTurn_1 : decode cX5_takeTurn 1 = .ok (.getfield 9, 3) := by decide +kernel
theorem dX5_takeTurn_4 : decode cX5_takeTurn 4 = .ok (.iconst 1, 1) := by decide +kernel
theorem dX5_takeTurn_5 : decode cX5_takeTurn 5 = .ok (.baload, 1) := by decide +kernel
theorem dX5_takeTurn_6 : decode cX5_takeTurn 6 = .ok (.ifCond .ne 10, 3) := by decide +kernel
theorem dX5_takeTurn_9 : decode cX5_takeTurn 9 = .ok (.aload_n 0, 1) := by decide +kernel
theorem dX5_takeTurn_10 : decode cX5_takeTurn 10 = .ok (.aload_n 1, 1) := by decide +kernel
theorem dX5_takeTurn_11 : decode cX5_takeTurn 11 = .ok (.invokevirtual 15, 3) := by decide +kernel
theorem dX5_takeTurn_14 : decode cX5_takeTurn 14 = .ok (.iconst 0, 1) := by decide +kernel
theorem dX5_takeTurn_15 : decode cX5_takeTurn 15 = .ok (.ireturn, 1) := by decide +kernel
theorem dX5_takeTurn_16 : decode cX5_takeTurn 16 = .ok (.aload_n 1, 1) := by decide +kernel
theorem dX5_takeTurn_17 : decode cX5_takeTurn 17 = .ok (.getfield 21, 3) := by decide +kernel
theorem dX5_takeTurn_20 : decode cX5_takeTurn 20 = .ok (.iconst 0, 1) := by decide +kernel
theorem dX5_takeTurn_21 : decode cX5_takeTurn 21 = .ok (.aaload, 1) := by decide +kernel
theorem dX5_takeTurn_22 : decode cX5_takeTurn 22 = .ok (.iconst 0, 1) := by decide +kernel
theorem dX5_takeTurn_23 : decode cX5_takeTurn 23 = .ok (.invokevirtual 25, 3) := by decide +kernel
theorem dX5_takeTurn_26 : decode cX5_takeTurn 26 = .ok (.astore_n 2, 1) := by decide +kernel
theorem dX5_takeTurn_27 : decode cX5_takeTurn 27 = .ok (.aload_n 2, 1) := by decide +kernel
theorem dX5_takeTurn_28 : decode cX5_takeTurn 28 = .ok (.ifnull 12, 3) := by decide +kernel
theorem dX5_takeTurn_31 : decode cX5_takeTurn 31 = .ok (.aload_n 2, 1) := by decide +kernel
theorem dX5_takeTurn_32 : decode cX5_takeTurn 32 = .ok (.getfield 31, 3) := by decide +kernel
theorem dX5_takeTurn_35 : decode cX5_takeTurn 35 = .ok (.ifCond .ne 5, 3) := by decide +kernel
theorem dX5_takeTurn_38 : decode cX5_takeTurn 38 = .ok (.iconst 0, 1) := by decide +kernel
theorem dX5_takeTurn_39 : decode cX5_takeTurn 39 = .ok (.ireturn, 1) := by decide +kernel
theorem dX5_takeTurn_40 : decode cX5_takeTurn 40 = .ok (.aload_n 2, 1) := by decide +kernel
theorem dX5_takeTurn_41 : decode cX5_takeTurn 41 = .ok (.ifnull 17, 3) := by decide +kernel
theorem dX5_takeTurn_44 : decode cX5_takeTurn 44 = .ok (.aload_n 2, 1) := by decide +kernel
theorem dX5_takeTurn_45 : decode cX5_takeTurn 45 = .ok (.getfield 31, 3) := by decide +kernel
theorem dX5_takeTurn_48 : decode cX5_takeTurn 48 = .ok (.bipush 41, 2) := by decide +kernel
theorem dX5_takeTurn_50 : decode cX5_takeTurn 50 = .ok (.if_icmp .ne 8, 3) := by decide +kernel
theorem dX5_takeTurn_53 : decode cX5_takeTurn 53 = .ok (.aload_n 0, 1) := by decide +kernel
theorem dX5_takeTurn_54 : decode cX5_takeTurn 54 = .ok (.iconst 0, 1) := by decide +kernel
theorem dX5_takeTurn_55 : decode cX5_takeTurn 55 = .ok (.putfield 37, 3) := by decide +kernel
theorem dX5_takeTurn_58 : decode cX5_takeTurn 58 = .ok (.aload_n 0, 1) := by decide +kernel
theorem dX5_takeTurn_59 : decode cX5_takeTurn 59 = .ok (.getfield 41, 3) := by decide +kernel
theorem dX5_takeTurn_62 : decode cX5_takeTurn 62 = .ok (.bipush 10, 2) := by decide +kernel
theorem dX5_takeTurn_64 : decode cX5_takeTurn 64 = .ok (.irem, 1) := by decide +kernel
theorem dX5_takeTurn_65 : decode cX5_takeTurn 65 = .ok (.ifCond .ne 15, 3) := by decide +kernel
theorem dX5_takeTurn_68 : decode cX5_takeTurn 68 = .ok (.aload_n 0, 1) := by decide +kernel
theorem dX5_takeTurn_69 : decode cX5_takeTurn 69 = .ok (.aload_n 1, 1) := by decide +kernel
theorem dX5_takeTurn_70 : decode cX5_takeTurn 70 = .ok (.invokevirtual 44, 3) := by decide +kernel
theorem dX5_takeTurn_73 : decode cX5_takeTurn 73 = .ok (.ifCond .eq 7, 3) := by decide +kernel
theorem dX5_takeTurn_76 : decode cX5_takeTurn 76 = .ok (.iconst 1, 1) := by decide +kernel
theorem dX5_takeTurn_77 : decode cX5_takeTurn 77 = .ok (.goto 4, 3) := by decide +kernel
theorem dX5_takeTurn_80 : decode cX5_takeTurn 80 = .ok (.iconst 0, 1) := by decide +kernel
theorem dX5_takeTurn_81 : decode cX5_takeTurn 81 = .ok (.ireturn, 1) := by decide +kernel
theorem dX5_check_0 : decode cX5_check 0 = .ok (.aload_n 0, 1) := by decide +kernel
theorem dX5_check_1 : decode cX5_check 1 = .ok (.getfield 37, 3) := by decide +kernel
theorem dX5_check_4 : decode cX5_check 4 = .ok (.ifCond .eq 5, 3) := by decide +kernel
theorem dX5_check_7 : decode cX5_check 7 = .ok (.iconst 1, 1) := by decide +kernel
theorem dX5_check_8 : decode cX5_check 8 = .ok (.ireturn, 1) := by decide +kernel
theorem dX5_check_9 : decode cX5_check 9 = .ok (.aload_n 0, 1) := by decide +kernel
theorem dX5_check_10 : decode cX5_check 10 = .ok (.iconst 1, 1) := by decide +kernel
theorem dX5_check_11 : decode cX5_check 11 = .ok (.putfield 37, 3) := by decide +kernel
theorem dX5_check_14 : decode cX5_check 14 = .ok (.aload_n 1, 1) := by decide +kernel
theorem dX5_check_15 : decode cX5_check 15 = .ok (.iconst 0, 1) := by decide +kernel
theorem dX5_check_16 : decode cX5_check 16 = .ok (.iconst 1, 1) := by decide +kernel
theorem dX5_check_17 : decode cX5_check 17 = .ok (.bipush 40, 2) := by decide +kernel
theorem dX5_check_19 : decode cX5_check 19 = .ok (.iconst 0, 1) := by decide +kernel
theorem dX5_check_20 : decode cX5_check 20 = .ok (.iconst 0, 1) := by decide +kernel
theorem dX5_check_21 : decode cX5_check 21 = .ok (.invokevirtual 48, 3) := by decide +kernel
theorem dX5_check_24 : decode cX5_check 24 = .ok (.iconst 0, 1) := by decide +kernel
theorem dX5_check_25 : decode cX5_check 25 = .ok (.ireturn, 1) := by decide +kernel
theorem dX5_watchDead_0 : decode cX5_watchDead 0 = .ok (.aload_n 0, 1) := by decide +kernel
theorem dX5_watchDead_1 : decode cX5_watchDead 1 = .ok (.dup, 1) := by decide +kernel
theorem dX5_watchDead_2 : decode cX5_watchDead 2 = .ok (.getfield 52, 3) := by decide +kernel
theorem dX5_watchDead_5 : decode cX5_watchDead 5 = .ok (.iconst 1, 1) := by decide +kernel
theorem dX5_watchDead_6 : decode cX5_watchDead 6 = .ok (.iadd, 1) := by decide +kernel
theorem dX5_watchDead_7 : decode cX5_watchDead 7 = .ok (.putfield 52, 3) := by decide +kernel
theorem dX5_watchDead_10 : decode cX5_watchDead 10 = .ok (.aload_n 0, 1) := by decide +kernel
theorem dX5_watchDead_11 : decode cX5_watchDead 11 = .ok (.getfield 52, 3) := by decide +kernel
theorem dX5_watchDead_14 : decode cX5_watchDead 14 = .ok (.iconst 3, 1) := by decide +kernel
theorem dX5_watchDead_15 : decode cX5_watchDead 15 = .ok (.if_icmp .lt 25, 3) := by decide +kernel
theorem dX5_watchDead_18 : decode cX5_watchDead 18 = .ok (.aload_n 0, 1) := by decide +kernel
theorem dX5_watchDead_19 : decode cX5_watchDead 19 = .ok (.iconst 0, 1) := by decide +kernel
theorem dX5_watchDead_20 : decode cX5_watchDead 20 = .ok (.putfield 37, 3) := by decide +kernel
theorem dX5_watchDead_23 : decode cX5_watchDead 23 = .ok (.aload_n 1, 1) := by decide +kernel
theorem dX5_watchDead_24 : decode cX5_watchDead 24 = .ok (.invokevirtual 55, 3) := by decide +kernel
theorem dX5_watchDead_27 : decode cX5_watchDead 27 = .ok (.aload_n 1, 1) := by decide +kernel
theorem dX5_watchDead_28 : decode cX5_watchDead 28 = .ok (.iconst 0, 1) := by decide +kernel
theorem dX5_watchDead_29 : decode cX5_watchDead 29 = .ok (.iconst 2, 1) := by decide +kernel
theorem dX5_watchDead_30 : decode cX5_watchDead 30 = .ok (.bipush 42, 2) := by decide +kernel
theorem dX5_watchDead_32 : decode cX5_watchDead 32 = .ok (.aload_n 1, 1) := by decide +kernel
theorem dX5_watchDead_33 : decode cX5_watchDead 33 = .ok (.getfield 58, 3) := by decide +kernel
theorem dX5_watchDead_36 : decode cX5_watchDead 36 = .ok (.iconst 0, 1) := by decide +kernel
theorem dX5_watchDead_37 : decode cX5_watchDead 37 = .ok (.invokevirtual 48, 3) := by decide +kernel
theorem dX5_watchDead_40 : decode cX5_watchDead 40 = .ok (.return_, 1) := by decide +kernel
end
section
theorem dX6_init_0 : decode cX6_init 0 = .ok (.aload_n 0, 1) := by decide +kernel
theorem dX6_init_1 : decode cX6_init 1 = .ok (.invokespecial 3, 3) := by decide +kernel
theorem dX6_init_4 : decode cX6_init 4 = .ok (.aload_n 0, 1) := by decide +kernel
theorem dX6_init_5 : decode cX6_init 5 = .ok (.bipush 8, 2) := by decide +kernel
theorem dX6_init_7 : decode cX6_init 7 = .ok (.newarray .int, 2) := by decide +kernel
theorem dX6_init_9 : decode cX6_init 9 = .ok (.putfield 9, 3) := by decide +kernel
theorem dX6_init_12 : decode cX6_init 12 = .ok (.aload_n 0, 1) := by decide +kernel
theorem dX6_init_13 : decode cX6_init 13 = .ok (.iconst 0, 1) := by decide +kernel
theorem dX6_init_14 : decode cX6_init 14 = .ok (.putfield 15, 3) := by decide +kernel
theorem dX6_init_17 : decode cX6_init 17 = .ok (.aload_n 0, 1) := by decide +kernel
theorem dX6_init_18 : decode cX6_init 18 = .ok (.iconst (-1), 1) := by decide +kernel
theorem dX6_init_19 : decode cX6_init 19 = .ok (.putfield 19, 3) := by decide +kernel
theorem dX6_init_22 : decode cX6_init 22 = .ok (.return_, 1) := by decide +kernel
theorem dX6_write_0 : decode cX6_write 0 = .ok (.aload_n 0, 1) := by decide +kernel
theorem dX6_write_1 : decode cX6_write 1 = .ok (.iload_n 1, 1) := by decide +kernel
theorem dX6_write_2 : decode cX6_write 2 = .ok (.putfield 22, 3) := by decide +kernel
theorem dX6_write_5 : decode cX6_write 5 = .ok (.aload_n 0, 1) := by decide +kernel
theorem dX6_write_6 : decode cX6_write 6 = .ok (.iload_n 2, 1) := by decide +kernel
theorem dX6_write_7 : decode cX6_write 7 = .ok (.putfield 25, 3) := by decide +kernel
theorem dX6_write_10 : decode cX6_write 10 = .ok (.aload_n 0, 1) := by decide +kernel
theorem dX6_write_11 : decode cX6_write 11 = .ok (.iload_n 3, 1) := by decide +kernel
theorem dX6_write_12 : decode cX6_write 12 = .ok (.putfield 28, 3) := by decide +kernel
theorem dX6_write_15 : decode cX6_write 15 = .ok (.aload_n 0, 1) := by decide +kernel
theorem dX6_write_16 : decode cX6_write 16 = .ok (.iload 4, 2) := by decide +kernel
theorem dX6_write_18 : decode cX6_write 18 = .ok (.putfield 31, 3) := by decide +kernel
theorem dX6_write_21 : decode cX6_write 21 = .ok (.aload_n 0, 1) := by decide +kernel
theorem dX6_write_22 : decode cX6_write 22 = .ok (.iconst 0, 1) := by decide +kernel
theorem dX6_write_23 : decode cX6_write 23 = .ok (.putfield 34, 3) := by decide +kernel
theorem dX6_write_26 : decode cX6_write 26 = .ok (.aload_n 0, 1) := by decide +kernel
theorem dX6_write_27 : decode cX6_write 27 = .ok (.iconst 0, 1) := by decide +kernel
theorem dX6_write_28 : decode cX6_write 28 = .ok (.putfield 15, 3) := by decide +kernel
theorem dX6_write_31 : decode cX6_write 31 = .ok (.aload_n 0, 1) := by decide +kernel
theorem dX6_write_32 : decode cX6_write 32 = .ok (.iconst (-1), 1) := by decide +kernel
theorem dX6_write_33 : decode cX6_write 33 = .ok (.putfield 19, 3) := by decide +kernel
theorem dX6_write_36 : decode cX6_write 36 = .ok (.return_, 1) := by decide +kernel
theorem dX6_setNumbers_0 : decode cX6_setNumbers 0 = .ok (.iconst 0, 1) := by decide +kernel
theorem dX6_setNumbers_1 : decode cX6_setNumbers 1 = .ok (.istore_n 3, 1) := by decide +kernel
theorem dX6_setNumbers_2 : decode cX6_setNumbers 2 = .ok (.iload_n 3, 1) := by decide +kernel
theorem dX6_setNumbers_3 : decode cX6_setNumbers 3 = .ok (.bipush 8, 2) := by decide +kernel
theorem dX6_setNumbers_5 : decode cX6_setNumbers 5 = .ok (.if_icmp .ge 40, 3) := by decide +kernel
theorem dX6_setNumbers_8 : decode cX6_setNumbers 8 = .ok (.iload_n 2, 1) := by decide +kernel
theorem dX6_setNumbers_9 : decode cX6_setNumbers 9 = .ok (.iload_n 3, 1) := by decide +kernel
theorem dX6_setNumbers_10 : decode cX6_setNumbers 10 = .ok (.iadd, 1) := by decide +kernel
theorem dX6_setNumbers_11 : decode cX6_setNumbers 11 = .ok (.istore 4, 2) := by decide +kernel
theorem dX6_setNumbers_13 : decode cX6_setNumbers 13 = .ok (.aload_n 0, 1) := by decide +kernel
theorem dX6_setNumbers_14 : decode cX6_setNumbers 14 = .ok (.getfield 9, 3) := by decide +kernel
theorem dX6_setNumbers_17 : decode cX6_setNumbers 17 = .ok (.iload_n 3, 1) := by decide +kernel
theorem dX6_setNumbers_18 : decode cX6_setNumbers 18 = .ok (.iload 4, 2) := by decide +kernel
theorem dX6_setNumbers_20 : decode cX6_setNumbers 20 = .ok (.ifCond .lt 17, 3) := by decide +kernel
theorem dX6_setNumbers_23 : decode cX6_setNumbers 23 = .ok (.iload 4, 2) := by decide +kernel
theorem dX6_setNumbers_25 : decode cX6_setNumbers 25 = .ok (.aload_n 1, 1) := by decide +kernel
theorem dX6_setNumbers_26 : decode cX6_setNumbers 26 = .ok (.arraylength, 1) := by decide +kernel
theorem dX6_setNumbers_27 : decode cX6_setNumbers 27 = .ok (.if_icmp .ge 10, 3) := by decide +kernel
theorem dX6_setNumbers_30 : decode cX6_setNumbers 30 = .ok (.aload_n 1, 1) := by decide +kernel
theorem dX6_setNumbers_31 : decode cX6_setNumbers 31 = .ok (.iload 4, 2) := by decide +kernel
theorem dX6_setNumbers_33 : decode cX6_setNumbers 33 = .ok (.iaload, 1) := by decide +kernel
theorem dX6_setNumbers_34 : decode cX6_setNumbers 34 = .ok (.goto 4, 3) := by decide +kernel
theorem dX6_setNumbers_37 : decode cX6_setNumbers 37 = .ok (.iconst 0, 1) := by decide +kernel
theorem dX6_setNumbers_38 : decode cX6_setNumbers 38 = .ok (.iastore, 1) := by decide +kernel
theorem dX6_setNumbers_39 : decode cX6_setNumbers 39 = .ok (.iinc 3 1, 3) := by decide +kernel
theorem dX6_setNumbers_42 : decode cX6_setNumbers 42 = .ok (.goto (-40), 3) := by decide +kernel
theorem dX6_setNumbers_45 : decode cX6_setNumbers 45 = .ok (.return_, 1) := by decide +kernel
theorem dX6_copy_0 : decode cX6_copy 0 = .ok (.aload_n 0, 1) := by decide +kernel
theorem dX6_copy_1 : decode cX6_copy 1 = .ok (.aload_n 1, 1) := by decide +kernel
theorem dX6_copy_2 : decode cX6_copy 2 = .ok (.getfield 22, 3) := by decide +kernel
theorem dX6_copy_5 : decode cX6_copy 5 = .ok (.putfield 22, 3) := by decide +kernel
theorem dX6_copy_8 : decode cX6_copy 8 = .ok (.aload_n 0, 1) := by decide +kernel
theorem dX6_copy_9 : decode cX6_copy 9 = .ok (.aload_n 1, 1) := by decide +kernel
theorem dX6_copy_10 : decode cX6_copy 10 = .ok (.getfield 25, 3) := by decide +kernel
theorem dX6_copy_13 : decode cX6_copy 13 = .ok (.putfield 25, 3) := by decide +kernel
theorem dX6_copy_16 : decode cX6_copy 16 = .ok (.aload_n 0, 1) := by decide +kernel
theorem dX6_copy_17 : decode cX6_copy 17 = .ok (.aload_n 1, 1) := by decide +kernel
theorem dX6_copy_18 : decode cX6_copy 18 = .ok (.getfield 28, 3) := by decide +kernel
theorem dX6_copy_21 : decode cX6_copy 21 = .ok (.putfield 28, 3) := by decide +kernel
theorem dX6_copy_24 : decode cX6_copy 24 = .ok (.aload_n 0, 1) := by decide +kernel
theorem dX6_copy_25 : decode cX6_copy 25 = .ok (.aload_n 1, 1) := by decide +kernel
theorem dX6_copy_26 : decode cX6_copy 26 = .ok (.getfield 31, 3) := by decide +kernel
theorem dX6_copy_29 : decode cX6_copy 29 = .ok (.putfield 31, 3) := by decide +kernel
theorem dX6_copy_32 : decode cX6_copy 32 = .ok (.aload_n 0, 1) := by decide +kernel
theorem dX6_copy_33 : decode cX6_copy 33 = .ok (.aload_n 1, 1) := by decide +kernel
theorem dX6_copy_34 : decode cX6_copy 34 = .ok (.getfield 34, 3) := by decide +kernel
theorem dX6_copy_37 : decode cX6_copy 37 = .ok (.putfield 34, 3) := by decide +kernel
theorem dX6_copy_40 : decode cX6_copy 40 = .ok (.aload_n 0, 1) := by decide +kernel
theorem dX6_copy_41 : decode cX6_copy 41 = .ok (.getfield 25, 3) := by decide +kernel
theorem dX6_copy_44 : decode cX6_copy 44 = .ok (.bipush 21, 2) := by decide +kernel
theorem dX6_copy_46 : decode cX6_copy 46 = .ok (.if_icmp .eq 12, 3) := by decide +kernel
theorem dX6_copy_49 : decode cX6_copy 49 = .ok (.aload_n 0, 1) := by decide +kernel
theorem dX6_copy_50 : decode cX6_copy 50 = .ok (.getfield 25, 3) := by decide +kernel
theorem dX6_copy_53 : decode cX6_copy 53 = .ok (.bipush 22, 2) := by decide +kernel
theorem dX6_copy_55 : decode cX6_copy 55 = .ok (.if_icmp .ne 29, 3) := by decide +kernel
theorem dX6_copy_58 : decode cX6_copy 58 = .ok (.iconst 0, 1) := by decide +kernel
theorem dX6_copy_59 : decode cX6_copy 59 = .ok (.istore_n 2, 1) := by decide +kernel
theorem dX6_copy_60 : decode cX6_copy 60 = .ok (.iload_n 2, 1) := by decide +kernel
theorem dX6_copy_61 : decode cX6_copy 61 = .ok (.bipush 8, 2) := by decide +kernel
theorem dX6_copy_63 : decode cX6_copy 63 = .ok (.if_icmp .ge 21, 3) := by decide +kernel
theorem dX6_copy_66 : decode cX6_copy 66 = .ok (.aload_n 0, 1) := by decide +kernel
theorem dX6_copy_67 : decode cX6_copy 67 = .ok (.getfield 9, 3) := by decide +kernel
theorem dX6_copy_70 : decode cX6_copy 70 = .ok (.iload_n 2, 1) := by decide +kernel
theorem dX6_copy_71 : decode cX6_copy 71 = .ok (.aload_n 1, 1) := by decide +kernel
theorem dX6_copy_72 : decode cX6_copy 72 = .ok (.getfield 9, 3) := by decide +kernel
theorem dX6_copy_75 : decode cX6_copy 75 = .ok (.iload_n 2, 1) := by decide +kernel
theorem dX6_copy_76 : decode cX6_copy 76 = .ok (.iaload, 1) := by decide +kernel
theorem dX6_copy_77 : decode cX6_copy 77 = .ok (.iastore, 1) := by decide +kernel
theorem dX6_copy_78 : decode cX6_copy 78 = .ok (.iinc 2 1, 3) := by decide +kernel
theorem dX6_copy_81 : decode cX6_copy 81 = .ok (.goto (-21), 3) := by decide +kernel
theorem dX6_copy_84 : decode cX6_copy 84 = .ok (.return_, 1) := by decide +kernel
end
section
theorem dX7_init_0 : decode cX7_init 0 = .ok (.aload_n 0, 1) := by decide +kernel
theorem dX7_init_1 : decode cX7_init 1 = .ok (.invokespecial 3, 3) := by decide +kernel
theorem dX7_init_4 : decode cX7_init 4 = .ok (.aload_n 0, 1) := by decide +kernel
theorem dX7_init_5 : decode cX7_init 5 = .ok (.bipush 32, 2) := by decide +kernel
theorem dX7_init_7 : decode cX7_init 7 = .ok (.newarray .int, 2) := by decide +kernel
theorem dX7_init_9 : decode cX7_init 9 = .ok (.putfield 9, 3) := by decide +kernel
theorem dX7_init_12 : decode cX7_init 12 = .ok (.aload_n 0, 1) := by decide +kernel
theorem dX7_init_13 : decode cX7_init 13 = .ok (.bipush 32, 2) := by decide +kernel
theorem dX7_init_15 : decode cX7_init 15 = .ok (.newarray .int, 2) := by decide +kernel
theorem dX7_init_17 : decode cX7_init 17 = .ok (.putfield 15, 3) := by decide +kernel
theorem dX7_init_20 : decode cX7_init 20 = .ok (.iconst 0, 1) := by decide +kernel
theorem dX7_init_21 : decode cX7_init 21 = .ok (.istore_n 1, 1) := by decide +kernel
theorem dX7_init_22 : decode cX7_init 22 = .ok (.iload_n 1, 1) := by decide +kernel
theorem dX7_init_23 : decode cX7_init 23 = .ok (.aload_n 0, 1) := by decide +kernel
theorem dX7_init_24 : decode cX7_init 24 = .ok (.getfield 9, 3) := by decide +kernel
theorem dX7_init_27 : decode cX7_init 27 = .ok (.arraylength, 1) := by decide +kernel
theorem dX7_init_28 : decode cX7_init 28 = .ok (.if_icmp .ge 16, 3) := by decide +kernel
theorem dX7_init_31 : decode cX7_init 31 = .ok (.aload_n 0, 1) := by decide +kernel
theorem dX7_init_32 : decode cX7_init 32 = .ok (.getfield 9, 3) := by decide +kernel
theorem dX7_init_35 : decode cX7_init 35 = .ok (.iload_n 1, 1) := by decide +kernel
theorem dX7_init_36 : decode cX7_init 36 = .ok (.iconst (-1), 1) := by decide +kernel
theorem dX7_init_37 : decode cX7_init 37 = .ok (.iastore, 1) := by decide +kernel
theorem dX7_init_38 : decode cX7_init 38 = .ok (.iinc 1 1, 3) := by decide +kernel
theorem dX7_init_41 : decode cX7_init 41 = .ok (.goto (-19), 3) := by decide +kernel
theorem dX7_init_44 : decode cX7_init 44 = .ok (.return_, 1) := by decide +kernel
theorem dX7_slot_0 : decode cX7_slot 0 = .ok (.iload_n 1, 1) := by decide +kernel
theorem dX7_slot_1 : decode cX7_slot 1 = .ok (.invokestatic 18, 3) := by decide +kernel
theorem dX7_slot_4 : decode cX7_slot 4 = .ok (.ifCond .eq 12, 3) := by decide +kernel
theorem dX7_slot_7 : decode cX7_slot 7 = .ok (.iload_n 2, 1) := by decide +kernel
theorem dX7_slot_8 : decode cX7_slot 8 = .ok (.ifCond .lt 8, 3) := by decide +kernel
theorem dX7_slot_11 : decode cX7_slot 11 = .ok (.iload_n 2, 1) := by decide +kernel
theorem dX7_slot_12 : decode cX7_slot 12 = .ok (.iconst 4, 1) := by decide +kernel
theorem dX7_slot_13 : decode cX7_slot 13 = .ok (.if_icmp .lt 5, 3) := by decide +kernel
theorem dX7_slot_16 : decode cX7_slot 16 = .ok (.iconst (-1), 1) := by decide +kernel
theorem dX7_slot_17 : decode cX7_slot 17 = .ok (.ireturn, 1) := by decide +kernel
theorem dX7_slot_18 : decode cX7_slot 18 = .ok (.iload_n 1, 1) := by decide +kernel
theorem dX7_slot_19 : decode cX7_slot 19 = .ok (.iconst 4, 1) := by decide +kernel
theorem dX7_slot_20 : decode cX7_slot 20 = .ok (.isub, 1) := by decide +kernel
theorem dX7_slot_21 : decode cX7_slot 21 = .ok (.iconst 4, 1) := by decide +kernel
theorem dX7_slot_22 : decode cX7_slot 22 = .ok (.imul, 1) := by decide +kernel
theorem dX7_slot_23 : decode cX7_slot 23 = .ok (.iload_n 2, 1) := by decide +kernel
theorem dX7_slot_24 : decode cX7_slot 24 = .ok (.iadd, 1) := by decide +kernel
theorem dX7_slot_25 : decode cX7_slot 25 = .ok (.istore_n 3, 1) := by decide +kernel
theorem dX7_slot_26 : decode cX7_slot 26 = .ok (.aload_n 0, 1) := by decide +kernel
theorem dX7_slot_27 : decode cX7_slot 27 = .ok (.getfield 9, 3) := by decide +kernel
theorem dX7_slot_30 : decode cX7_slot 30 = .ok (.iload_n 3, 1) := by decide +kernel
theorem dX7_slot_31 : decode cX7_slot 31 = .ok (.iaload, 1) := by decide +kernel
theorem dX7_slot_32 : decode cX7_slot 32 = .ok (.iconst (-1), 1) := by decide +kernel
theorem dX7_slot_33 : decode cX7_slot 33 = .ok (.if_icmp .ne 7, 3) := by decide +kernel
theorem dX7_slot_36 : decode cX7_slot 36 = .ok (.iconst (-1), 1) := by decide +kernel
theorem dX7_slot_37 : decode cX7_slot 37 = .ok (.goto 4, 3) := by decide +kernel
theorem dX7_slot_40 : decode cX7_slot 40 = .ok (.iload_n 3, 1) := by decide +kernel
theorem dX7_slot_41 : decode cX7_slot 41 = .ok (.ireturn, 1) := by decide +kernel
theorem dX7_fileAt_0 : decode cX7_fileAt 0 = .ok (.aload_n 0, 1) := by decide +kernel
theorem dX7_fileAt_1 : decode cX7_fileAt 1 = .ok (.iload_n 1, 1) := by decide +kernel
theorem dX7_fileAt_2 : decode cX7_fileAt 2 = .ok (.iload_n 2, 1) := by decide +kernel
theorem dX7_fileAt_3 : decode cX7_fileAt 3 = .ok (.invokevirtual 22, 3) := by decide +kernel
theorem dX7_fileAt_6 : decode cX7_fileAt 6 = .ok (.istore_n 3, 1) := by decide +kernel
theorem dX7_fileAt_7 : decode cX7_fileAt 7 = .ok (.iload_n 3, 1) := by decide +kernel
theorem dX7_fileAt_8 : decode cX7_fileAt 8 = .ok (.iconst (-1), 1) := by decide +kernel
theorem dX7_fileAt_9 : decode cX7_fileAt 9 = .ok (.if_icmp .ne 7, 3) := by decide +kernel
theorem dX7_fileAt_12 : decode cX7_fileAt 12 = .ok (.iconst (-1), 1) := by decide +kernel
theorem dX7_fileAt_13 : decode cX7_fileAt 13 = .ok (.goto 9, 3) := by decide +kernel
theorem dX7_fileAt_16 : decode cX7_fileAt 16 = .ok (.aload_n 0, 1) := by decide +kernel
theorem dX7_fileAt_17 : decode cX7_fileAt 17 = .ok (.getfield 9, 3) := by decide +kernel
theorem dX7_fileAt_20 : decode cX7_fileAt 20 = .ok (.iload_n 3, 1) := by decide +kernel
theorem dX7_fileAt_21 : decode cX7_fileAt 21 = .ok (.iaload, 1) := by decide +kernel
theorem dX7_fileAt_22 : decode cX7_fileAt 22 = .ok (.ireturn, 1) := by decide +kernel
theorem dX7_placeAt_0 : decode cX7_placeAt 0 = .ok (.aload_n 0, 1) := by decide +kernel
theorem dX7_placeAt_1 : decode cX7_placeAt 1 = .ok (.iload_n 1, 1) := by decide +kernel
theorem dX7_placeAt_2 : decode cX7_placeAt 2 = .ok (.iload_n 2, 1) := by decide +kernel
theorem dX7_placeAt_3 : decode cX7_placeAt 3 = .ok (.invokevirtual 22, 3) := by decide +kernel
theorem dX7_placeAt_6 : decode cX7_placeAt 6 = .ok (.istore_n 3, 1) := by decide +kernel
theorem dX7_placeAt_7 : decode cX7_placeAt 7 = .ok (.iload_n 3, 1) := by decide +kernel
theorem dX7_placeAt_8 : decode cX7_placeAt 8 = .ok (.iconst (-1), 1) := by decide +kernel
theorem dX7_placeAt_9 : decode cX7_placeAt 9 = .ok (.if_icmp .ne 7, 3) := by decide +kernel
theorem dX7_placeAt_12 : decode cX7_placeAt 12 = .ok (.iconst (-1), 1) := by decide +kernel
theorem dX7_placeAt_13 : decode cX7_placeAt 13 = .ok (.goto 9, 3) := by decide +kernel
theorem dX7_placeAt_16 : decode cX7_placeAt 16 = .ok (.aload_n 0, 1) := by decide +kernel
theorem dX7_placeAt_17 : decode cX7_placeAt 17 = .ok (.getfield 15, 3) := by decide +kernel
theorem dX7_placeAt_20 : decode cX7_placeAt 20 = .ok (.iload_n 3, 1) := by decide +kernel
theorem dX7_placeAt_21 : decode cX7_placeAt 21 = .ok (.iaload, 1) := by decide +kernel
theorem dX7_placeAt_22 : decode cX7_placeAt 22 = .ok (.ireturn, 1) := by decide +kernel
theorem dX7_setPlace_0 : decode cX7_setPlace 0 = .ok (.aload_n 0, 1) := by decide +kernel
theorem dX7_setPlace_1 : decode cX7_setPlace 1 = .ok (.iload_n 1, 1) := by decide +kernel
theorem dX7_setPlace_2 : decode cX7_setPlace 2 = .ok (.iload_n 2, 1) := by decide +kernel
theorem dX7_setPlace_3 : decode cX7_setPlace 3 = .ok (.invokevirtual 22, 3) := by decide +kernel
theorem dX7_setPlace_6 : decode cX7_setPlace 6 = .ok (.istore 4, 2) := by decide +kernel
theorem dX7_setPlace_8 : decode cX7_setPlace 8 = .ok (.iload 4, 2) := by decide +kernel
theorem dX7_setPlace_10 : decode cX7_setPlace 10 = .ok (.iconst (-1), 1) := by decide +kernel
theorem dX7_setPlace_11 : decode cX7_setPlace 11 = .ok (.if_icmp .eq 11, 3) := by decide +kernel
theorem dX7_setPlace_14 : decode cX7_setPlace 14 = .ok (.aload_n 0, 1) := by decide +kernel
theorem dX7_setPlace_15 : decode cX7_setPlace 15 = .ok (.getfield 15, 3) := by decide +kernel
theorem dX7_setPlace_18 : decode cX7_setPlace 18 = .ok (.iload 4, 2) := by decide +kernel
theorem dX7_setPlace_20 : decode cX7_setPlace 20 = .ok (.iload_n 3, 1) := by decide +kernel
theorem dX7_setPlace_21 : decode cX7_setPlace 21 = .ok (.iastore, 1) := by decide +kernel
theorem dX7_setPlace_22 : decode cX7_setPlace 22 = .ok (.return_, 1) := by decide +kernel
theorem dX7_leastFree_0 : decode cX7_leastFree 0 = .ok (.iconst 0, 1) := by decide +kernel
theorem dX7_leastFree_1 : decode cX7_leastFree 1 = .ok (.istore_n 2, 1) := by decide +kernel
theorem dX7_leastFree_2 : decode cX7_leastFree 2 = .ok (.iload_n 2, 1) := by decide +kernel
theorem dX7_leastFree_3 : decode cX7_leastFree 3 = .ok (.iconst 4, 1) := by decide +kernel
theorem dX7_leastFree_4 : decode cX7_leastFree 4 = .ok (.if_icmp .ge 21, 3) := by decide +kernel
theorem dX7_leastFree_7 : decode cX7_leastFree 7 = .ok (.aload_n 0, 1) := by decide +kernel
theorem dX7_leastFree_8 : decode cX7_leastFree 8 = .ok (.iload_n 1, 1) := by decide +kernel
theorem dX7_leastFree_9 : decode cX7_leastFree 9 = .ok (.iload_n 2, 1) := by decide +kernel
theorem dX7_leastFree_10 : decode cX7_leastFree 10 = .ok (.invokevirtual 22, 3) := by decide +kernel
theorem dX7_leastFree_13 : decode cX7_leastFree 13 = .ok (.iconst (-1), 1) := by decide +kernel
theorem dX7_leastFree_14 : decode cX7_leastFree 14 = .ok (.if_icmp .ne 5, 3) := by decide +kernel
theorem dX7_leastFree_17 : decode cX7_leastFree 17 = .ok (.iload_n 2, 1) := by decide +kernel
theorem dX7_leastFree_18 : decode cX7_leastFree 18 = .ok (.ireturn, 1) := by decide +kernel
theorem dX7_leastFree_19 : decode cX7_leastFree 19 = .ok (.iinc 2 1, 3) := by decide +kernel
theorem dX7_leastFree_22 : decode cX7_leastFree 22 = .ok (.goto (-20), 3) := by decide +kernel
theorem dX7_leastFree_25 : decode cX7_leastFree 25 = .ok (.iconst (-1), 1) := by decide +kernel
theorem dX7_leastFree_26 : decode cX7_leastFree 26 = .ok (.ireturn, 1) := by decide +kernel
theorem dX7_howMany_0 : decode cX7_howMany 0 = .ok (.iconst 0, 1) := by decide +kernel
theorem dX7_howMany_1 : decode cX7_howMany 1 = .ok (.istore_n 2, 1) := by decide +kernel
theorem dX7_howMany_2 : decode cX7_howMany 2 = .ok (.iconst 0, 1) := by decide +kernel
theorem dX7_howMany_3 : decode cX7_howMany 3 = .ok (.istore_n 3, 1) := by decide +kernel
theorem dX7_howMany_4 : decode cX7_howMany 4 = .ok (.iload_n 3, 1) := by decide +kernel
theorem dX7_howMany_5 : decode cX7_howMany 5 = .ok (.iconst 4, 1) := by decide +kernel
theorem dX7_howMany_6 : decode cX7_howMany 6 = .ok (.if_icmp .ge 27, 3) := by decide +kernel
theorem dX7_howMany_9 : decode cX7_howMany 9 = .ok (.iload_n 2, 1) := by decide +kernel
theorem dX7_howMany_10 : decode cX7_howMany 10 = .ok (.aload_n 0, 1) := by decide +kernel
theorem dX7_howMany_11 : decode cX7_howMany 11 = .ok (.iload_n 1, 1) := by decide +kernel
theorem dX7_howMany_12 : decode cX7_howMany 12 = .ok (.iload_n 3, 1) := by decide +kernel
theorem dX7_howMany_13 : decode cX7_howMany 13 = .ok (.invokevirtual 22, 3) := by decide +kernel
theorem dX7_howMany_16 : decode cX7_howMany 16 = .ok (.iconst (-1), 1) := by decide +kernel
theorem dX7_howMany_17 : decode cX7_howMany 17 = .ok (.if_icmp .ne 7, 3) := by decide +kernel
theorem dX7_howMany_20 : decode cX7_howMany 20 = .ok (.iconst 0, 1) := by decide +kernel
theorem dX7_howMany_21 : decode cX7_howMany 21 = .ok (.goto 4, 3) := by decide +kernel
theorem dX7_howMany_24 : decode cX7_howMany 24 = .ok (.iconst 1, 1) := by decide +kernel
theorem dX7_howMany_25 : decode cX7_howMany 25 = .ok (.iadd, 1) := by decide +kernel
theorem dX7_howMany_26 : decode cX7_howMany 26 = .ok (.istore_n 2, 1) := by decide +kernel
theorem dX7_howMany_27 : decode cX7_howMany 27 = .ok (.iinc 3 1, 3) := by decide +kernel
theorem dX7_howMany_30 : decode cX7_howMany 30 = .ok (.goto (-26), 3) := by decide +kernel
theorem dX7_howMany_33 : decode cX7_howMany 33 = .ok (.iload_n 2, 1) := by decide +kernel
theorem dX7_howMany_34 : decode cX7_howMany 34 = .ok (.ireturn, 1) := by decide +kernel
theorem dX7_anybodyHas_0 : decode cX7_anybodyHas 0 = .ok (.iconst 0, 1) := by decide +kernel
theorem dX7_anybodyHas_1 : decode cX7_anybodyHas 1 = .ok (.istore_n 2, 1) := by decide +kernel
theorem dX7_anybodyHas_2 : decode cX7_anybodyHas 2 = .ok (.iload_n 2, 1) := by decide +kernel
theorem dX7_anybodyHas_3 : decode cX7_anybodyHas 3 = .ok (.aload_n 0, 1) := by decide +kernel
theorem dX7_anybodyHas_4 : decode cX7_anybodyHas 4 = .ok (.getfield 9, 3) := by decide +kernel
theorem dX7_anybodyHas_7 : decode cX7_anybodyHas 7 = .ok (.arraylength, 1) := by decide +kernel
theorem dX7_anybodyHas_8 : decode cX7_anybodyHas 8 = .ok (.if_icmp .ge 21, 3) := by decide +kernel
theorem dX7_anybodyHas_11 : decode cX7_anybodyHas 11 = .ok (.aload_n 0, 1) := by decide +kernel
theorem dX7_anybodyHas_12 : decode cX7_anybodyHas 12 = .ok (.getfield 9, 3) := by decide +kernel
theorem dX7_anybodyHas_15 : decode cX7_anybodyHas 15 = .ok (.iload_n 2, 1) := by decide +kernel
theorem dX7_anybodyHas_16 : decode cX7_anybodyHas 16 = .ok (.iaload, 1) := by decide +kernel
theorem dX7_anybodyHas_17 : decode cX7_anybodyHas 17 = .ok (.iload_n 1, 1) := by decide +kernel
theorem dX7_anybodyHas_18 : decode cX7_anybodyHas 18 = .ok (.if_icmp .ne 5, 3) := by decide +kernel
theorem dX7_anybodyHas_21 : decode cX7_anybodyHas 21 = .ok (.iconst 1, 1) := by decide +kernel
theorem dX7_anybodyHas_22 : decode cX7_anybodyHas 22 = .ok (.ireturn, 1) := by decide +kernel
theorem dX7_anybodyHas_23 : decode cX7_anybodyHas 23 = .ok (.iinc 2 1, 3) := by decide +kernel
theorem dX7_anybodyHas_26 : decode cX7_anybodyHas 26 = .ok (.goto (-24), 3) := by decide +kernel
theorem dX7_anybodyHas_29 : decode cX7_anybodyHas 29 = .ok (.iconst 0, 1) := by decide +kernel
theorem dX7_anybodyHas_30 : decode cX7_anybodyHas 30 = .ok (.ireturn, 1) := by decide +kernel
theorem dX7_set_0 : decode cX7_set 0 = .ok (.iload_n 1, 1) := by decide +kernel
theorem dX7_set_1 : decode cX7_set 1 = .ok (.invokestatic 18, 3) := by decide +kernel
theorem dX7_set_4 : decode cX7_set 4 = .ok (.ifCond .eq 38, 3) := by decide +kernel
theorem dX7_set_7 : decode cX7_set 7 = .ok (.iload_n 2, 1) := by decide +kernel
theorem dX7_set_8 : decode cX7_set 8 = .ok (.ifCond .lt 34, 3) := by decide +kernel
theorem dX7_set_11 : decode cX7_set 11 = .ok (.iload_n 2, 1) := by decide +kernel
theorem dX7_set_12 : decode cX7_set 12 = .ok (.iconst 4, 1) := by decide +kernel
theorem dX7_set_13 : decode cX7_set 13 = .ok (.if_icmp .ge 29, 3) := by decide +kernel
theorem dX7_set_16 : decode cX7_set 16 = .ok (.iload_n 1, 1) := by decide +kernel
theorem dX7_set_17 : decode cX7_set 17 = .ok (.iconst 4, 1) := by decide +kernel
theorem dX7_set_18 : decode cX7_set 18 = .ok (.isub, 1) := by decide +kernel
theorem dX7_set_19 : decode cX7_set 19 = .ok (.iconst 4, 1) := by decide +kernel
theorem dX7_set_20 : decode cX7_set 20 = .ok (.imul, 1) := by decide +kernel
theorem dX7_set_21 : decode cX7_set 21 = .ok (.iload_n 2, 1) := by decide +kernel
theorem dX7_set_22 : decode cX7_set 22 = .ok (.iadd, 1) := by decide +kernel
theorem dX7_set_23 : decode cX7_set 23 = .ok (.istore 5, 2) := by decide +kernel
theorem dX7_set_25 : decode cX7_set 25 = .ok (.aload_n 0, 1) := by decide +kernel
theorem dX7_set_26 : decode cX7_set 26 = .ok (.getfield 9, 3) := by decide +kernel
theorem dX7_set_29 : decode cX7_set 29 = .ok (.iload 5, 2) := by decide +kernel
theorem dX7_set_31 : decode cX7_set 31 = .ok (.iload_n 3, 1) := by decide +kernel
theorem dX7_set_32 : decode cX7_set 32 = .ok (.iastore, 1) := by decide +kernel
theorem dX7_set_33 : decode cX7_set 33 = .ok (.aload_n 0, 1) := by decide +kernel
theorem dX7_set_34 : decode cX7_set 34 = .ok (.getfield 15, 3) := by decide +kernel
theorem dX7_set_37 : decode cX7_set 37 = .ok (.iload 5, 2) := by decide +kernel
theorem dX7_set_39 : decode cX7_set 39 = .ok (.iload 4, 2) := by decide +kernel
theorem dX7_set_41 : decode cX7_set 41 = .ok (.iastore, 1) := by decide +kernel
theorem dX7_set_42 : decode cX7_set 42 = .ok (.return_, 1) := by decide +kernel
theorem dX7_closeAll_0 : decode cX7_closeAll 0 = .ok (.iconst 0, 1) := by decide +kernel
theorem dX7_closeAll_1 : decode cX7_closeAll 1 = .ok (.istore_n 2, 1) := by decide +kernel
theorem dX7_closeAll_2 : decode cX7_closeAll 2 = .ok (.iload_n 2, 1) := by decide +kernel
theorem dX7_closeAll_3 : decode cX7_closeAll 3 = .ok (.iconst 4, 1) := by decide +kernel
theorem dX7_closeAll_4 : decode cX7_closeAll 4 = .ok (.if_icmp .ge 17, 3) := by decide +kernel
theorem dX7_closeAll_7 : decode cX7_closeAll 7 = .ok (.aload_n 0, 1) := by decide +kernel
theorem dX7_closeAll_8 : decode cX7_closeAll 8 = .ok (.iload_n 1, 1) := by decide +kernel
theorem dX7_closeAll_9 : decode cX7_closeAll 9 = .ok (.iload_n 2, 1) := by decide +kernel
theorem dX7_closeAll_10 : decode cX7_closeAll 10 = .ok (.iconst (-1), 1) := by decide +kernel
theorem dX7_closeAll_11 : decode cX7_closeAll 11 = .ok (.iconst 0, 1) := by decide +kernel
theorem dX7_closeAll_12 : decode cX7_closeAll 12 = .ok (.invokevirtual 26, 3) := by decide +kernel
theorem dX7_closeAll_15 : decode cX7_closeAll 15 = .ok (.iinc 2 1, 3) := by decide +kernel
theorem dX7_closeAll_18 : decode cX7_closeAll 18 = .ok (.goto (-16), 3) := by decide +kernel
theorem dX7_closeAll_21 : decode cX7_closeAll 21 = .ok (.return_, 1) := by decide +kernel
theorem dX7_copyAll_0 : decode cX7_copyAll 0 = .ok (.iconst 0, 1) := by decide +kernel
theorem dX7_copyAll_1 : decode cX7_copyAll 1 = .ok (.istore_n 3, 1) := by decide +kernel
theorem dX7_copyAll_2 : decode cX7_copyAll 2 = .ok (.iload_n 3, 1) := by decide +kernel
theorem dX7_copyAll_3 : decode cX7_copyAll 3 = .ok (.iconst 4, 1) := by decide +kernel
theorem dX7_copyAll_4 : decode cX7_copyAll 4 = .ok (.if_icmp .ge 27, 3) := by decide +kernel
theorem dX7_copyAll_7 : decode cX7_copyAll 7 = .ok (.aload_n 0, 1) := by decide +kernel
theorem dX7_copyAll_8 : decode cX7_copyAll 8 = .ok (.iload_n 2, 1) := by decide +kernel
theorem dX7_copyAll_9 : decode cX7_copyAll 9 = .ok (.iload_n 3, 1) := by decide +kernel
theorem dX7_copyAll_10 : decode cX7_copyAll 10 = .ok (.aload_n 0, 1) := by decide +kernel
theorem dX7_copyAll_11 : decode cX7_copyAll 11 = .ok (.iload_n 1, 1) := by decide +kernel
theorem dX7_copyAll_12 : decode cX7_copyAll 12 = .ok (.iload_n 3, 1) := by decide +kernel
theorem dX7_copyAll_13 : decode cX7_copyAll 13 = .ok (.invokevirtual 30, 3) := by decide +kernel
theorem dX7_copyAll_16 : decode cX7_copyAll 16 = .ok (.aload_n 0, 1) := by decide +kernel
theorem dX7_copyAll_17 : decode cX7_copyAll 17 = .ok (.iload_n 1, 1) := by decide +kernel
theorem dX7_copyAll_18 : decode cX7_copyAll 18 = .ok (.iload_n 3, 1) := by decide +kernel
theorem dX7_copyAll_19 : decode cX7_copyAll 19 = .ok (.invokevirtual 33, 3) := by decide +kernel
theorem dX7_copyAll_22 : decode cX7_copyAll 22 = .ok (.invokevirtual 26, 3) := by decide +kernel
theorem dX7_copyAll_25 : decode cX7_copyAll 25 = .ok (.iinc 3 1, 3) := by decide +kernel
theorem dX7_copyAll_28 : decode cX7_copyAll 28 = .ok (.goto (-26), 3) := by decide +kernel
theorem dX7_copyAll_31 : decode cX7_copyAll 31 = .ok (.return_, 1) := by decide +kernel
end
section
theorem dX8_init_0 : decode cX8_init 0 = .ok (.aload_n 0, 1) := by decide +kernel
theorem dX8_init_1 : decode cX8_init 1 = .ok (.invokespecial 3, 3) := by decide +kernel
theorem dX8_init_4 : decode cX8_init 4 = .ok (.aload_n 0, 1) := by decide +kernel
theorem dX8_init_5 : decode cX8_init 5 = .ok (.bipush 12, 2) := by decide +kernel
theorem dX8_init_7 : decode cX8_init 7 = .ok (.newarray .int, 2) := by decide +kernel
theorem dX8_init_9 : decode cX8_init 9 = .ok (.putfield 9, 3) := by decide +kernel
theorem dX8_init_12 : decode cX8_init 12 = .ok (.aload_n 0, 1) := by decide +kernel
theorem dX8_init_13 : decode cX8_init 13 = .ok (.bipush 12, 2) := by decide +kernel
theorem dX8_init_15 : decode cX8_init 15 = .ok (.newarray .int, 2) := by decide +kernel
theorem dX8_init_17 : decode cX8_init 17 = .ok (.putfield 15, 3) := by decide +kernel
theorem dX8_init_20 : decode cX8_init 20 = .ok (.aload_n 0, 1) := by decide +kernel
theorem dX8_init_21 : decode cX8_init 21 = .ok (.bipush 12, 2) := by decide +kernel
theorem dX8_init_23 : decode cX8_init 23 = .ok (.newarray .boolean, 2) := by decide +kernel
theorem dX8_init_25 : decode cX8_init 25 = .ok (.putfield 18, 3) := by decide +kernel
theorem dX8_init_28 : decode cX8_init 28 = .ok (.aload_n 0, 1) := by decide +kernel
theorem dX8_init_29 : decode cX8_init 29 = .ok (.bipush 12, 2) := by decide +kernel
theorem dX8_init_31 : decode cX8_init 31 = .ok (.newarray .boolean, 2) := by decide +kernel
theorem dX8_init_33 : decode cX8_init 33 = .ok (.putfield 22, 3) := by decide +kernel
theorem dX8_init_36 : decode cX8_init 36 = .ok (.iconst 0, 1) := by decide +kernel
theorem dX8_init_37 : decode cX8_init 37 = .ok (.istore_n 1, 1) := by decide +kernel
theorem dX8_init_38 : decode cX8_init 38 = .ok (.iload_n 1, 1) := by decide +kernel
theorem dX8_init_39 : decode cX8_init 39 = .ok (.bipush 12, 2) := by decide +kernel
theorem dX8_init_41 : decode cX8_init 41 = .ok (.if_icmp .ge 16, 3) := by decide +kernel
theorem dX8_init_44 : decode cX8_init 44 = .ok (.aload_n 0, 1) := by decide +kernel
theorem dX8_init_45 : decode cX8_init 45 = .ok (.getfield 9, 3) := by decide +kernel
theorem dX8_init_48 : decode cX8_init 48 = .ok (.iload_n 1, 1) := by decide +kernel
theorem dX8_init_49 : decode cX8_init 49 = .ok (.iconst (-1), 1) := by decide +kernel
theorem dX8_init_50 : decode cX8_init 50 = .ok (.iastore, 1) := by decide +kernel
theorem dX8_init_51 : decode cX8_init 51 = .ok (.iinc 1 1, 3) := by decide +kernel
theorem dX8_init_54 : decode cX8_init 54 = .ok (.goto (-16), 3) := by decide +kernel
theorem dX8_init_57 : decode cX8_init 57 = .ok (.return_, 1) := by decide +kernel
theorem dX8_hasEnded_0 : decode cX8_hasEnded 0 = .ok (.iload_n 1, 1) := by decide +kernel
theorem dX8_hasEnded_1 : decode cX8_hasEnded 1 = .ok (.invokestatic 25, 3) := by decide +kernel
theorem dX8_hasEnded_4 : decode cX8_hasEnded 4 = .ok (.ifCond .eq 16, 3) := by decide +kernel
theorem dX8_hasEnded_7 : decode cX8_hasEnded 7 = .ok (.aload_n 0, 1) := by decide +kernel
theorem dX8_hasEnded_8 : decode cX8_hasEnded 8 = .ok (.getfield 18, 3) := by decide +kernel
theorem dX8_hasEnded_11 : decode cX8_hasEnded 11 = .ok (.iload_n 1, 1) := by decide +kernel
theorem dX8_hasEnded_12 : decode cX8_hasEnded 12 = .ok (.baload, 1) := by decide +kernel
theorem dX8_hasEnded_13 : decode cX8_hasEnded 13 = .ok (.ifCond .eq 7, 3) := by decide +kernel
theorem dX8_hasEnded_16 : decode cX8_hasEnded 16 = .ok (.iconst 1, 1) := by decide +kernel
theorem dX8_hasEnded_17 : decode cX8_hasEnded 17 = .ok (.goto 4, 3) := by decide +kernel
theorem dX8_hasEnded_20 : decode cX8_hasEnded 20 = .ok (.iconst 0, 1) := by decide +kernel
theorem dX8_hasEnded_21 : decode cX8_hasEnded 21 = .ok (.ireturn, 1) := by decide +kernel
theorem dX8_parentOf_0 : decode cX8_parentOf 0 = .ok (.iload_n 1, 1) := by decide +kernel
theorem dX8_parentOf_1 : decode cX8_parentOf 1 = .ok (.invokestatic 25, 3) := by decide +kernel
theorem dX8_parentOf_4 : decode cX8_parentOf 4 = .ok (.ifCond .eq 12, 3) := by decide +kernel
theorem dX8_parentOf_7 : decode cX8_parentOf 7 = .ok (.aload_n 0, 1) := by decide +kernel
theorem dX8_parentOf_8 : decode cX8_parentOf 8 = .ok (.getfield 9, 3) := by decide +kernel
theorem dX8_parentOf_11 : decode cX8_parentOf 11 = .ok (.iload_n 1, 1) := by decide +kernel
theorem dX8_parentOf_12 : decode cX8_parentOf 12 = .ok (.iaload, 1) := by decide +kernel
theorem dX8_parentOf_13 : decode cX8_parentOf 13 = .ok (.goto 4, 3) := by decide +kernel
theorem dX8_parentOf_16 : decode cX8_parentOf 16 = .ok (.iconst (-1), 1) := by decide +kernel
theorem dX8_parentOf_17 : decode cX8_parentOf 17 = .ok (.ireturn, 1) := by decide +kernel
theorem dX8_codeOf_0 : decode cX8_codeOf 0 = .ok (.iload_n 1, 1) := by decide +kernel
theorem dX8_codeOf_1 : decode cX8_codeOf 1 = .ok (.invokestatic 25, 3) := by decide +kernel
theorem dX8_codeOf_4 : decode cX8_codeOf 4 = .ok (.ifCond .eq 12, 3) := by decide +kernel
theorem dX8_codeOf_7 : decode cX8_codeOf 7 = .ok (.aload_n 0, 1) := by decide +kernel
theorem dX8_codeOf_8 : decode cX8_codeOf 8 = .ok (.getfield 15, 3) := by decide +kernel
theorem dX8_codeOf_11 : decode cX8_codeOf 11 = .ok (.iload_n 1, 1) := by decide +kernel
theorem dX8_codeOf_12 : decode cX8_codeOf 12 = .ok (.iaload, 1) := by decide +kernel
theorem dX8_codeOf_13 : decode cX8_codeOf 13 = .ok (.goto 4, 3) := by decide +kernel
theorem dX8_codeOf_16 : decode cX8_codeOf 16 = .ok (.iconst 0, 1) := by decide +kernel
theorem dX8_codeOf_17 : decode cX8_codeOf 17 = .ok (.ireturn, 1) := by decide +kernel
theorem dX8_takeTurn_0 : decode cX8_takeTurn 0 = .ok (.aload_n 1, 1) := by decide +kernel
theorem dX8_takeTurn_1 : decode cX8_takeTurn 1 = .ok (.getfield 29, 3) := by decide +kernel
theorem dX8_takeTurn_4 : decode cX8_takeTurn 4 = .ok (.iconst 3, 1) := by decide +kernel
theorem dX8_takeTurn_5 : decode cX8_takeTurn 5 = .ok (.aaload, 1) := by decide +kernel
theorem dX8_takeTurn_6 : decode cX8_takeTurn 6 = .ok (.astore_n 3, 1) := by decide +kernel
theorem dX8_takeTurn_7 : decode cX8_takeTurn 7 = .ok (.aload_n 3, 1) := by decide +kernel
theorem dX8_takeTurn_8 : decode cX8_takeTurn 8 = .ok (.aload_n 0, 1) := by decide +kernel
theorem dX8_takeTurn_9 : decode cX8_takeTurn 9 = .ok (.getfield 35, 3) := by decide +kernel
theorem dX8_takeTurn_12 : decode cX8_takeTurn 12 = .ok (.ifCond .eq 11, 3) := by decide +kernel
theorem dX8_takeTurn_15 : decode cX8_takeTurn 15 = .ok (.aload_n 3, 1) := by decide +kernel
theorem dX8_takeTurn_16 : decode cX8_takeTurn 16 = .ok (.iconst 4, 1) := by decide +kernel
theorem dX8_takeTurn_17 : decode cX8_takeTurn 17 = .ok (.invokevirtual 39, 3) := by decide +kernel
theorem dX8_takeTurn_20 : decode cX8_takeTurn 20 = .ok (.goto 4, 3) := by decide +kernel
theorem dX8_takeTurn_23 : decode cX8_takeTurn 23 = .ok (.iconst 0, 1) := by decide +kernel
theorem dX8_takeTurn_24 : decode cX8_takeTurn 24 = .ok (.invokevirtual 45, 3) := by decide +kernel
theorem dX8_takeTurn_27 : decode cX8_takeTurn 27 = .ok (.astore 4, 2) := by decide +kernel
theorem dX8_takeTurn_29 : decode cX8_takeTurn 29 = .ok (.aload 4, 2) := by decide +kernel
theorem dX8_takeTurn_31 : decode cX8_takeTurn 31 = .ok (.ifnull 14, 3) := by decide +kernel
theorem dX8_takeTurn_34 : decode cX8_takeTurn 34 = .ok (.aload 4, 2) := by decide +kernel
theorem dX8_takeTurn_36 : decode cX8_takeTurn 36 = .ok (.getfield 49, 3) := by decide +kernel
theorem dX8_takeTurn_39 : decode cX8_takeTurn 39 = .ok (.invokestatic 55, 3) := by decide +kernel
theorem dX8_takeTurn_42 : decode cX8_takeTurn 42 = .ok (.ifCond .ne 4, 3) := by decide +kernel
theorem dX8_takeTurn_45 : decode cX8_takeTurn 45 = .ok (.return_, 1) := by decide +kernel
theorem dX8_takeTurn_46 : decode cX8_takeTurn 46 = .ok (.aload 4, 2) := by decide +kernel
theorem dX8_takeTurn_48 : decode cX8_takeTurn 48 = .ok (.getfield 49, 3) := by decide +kernel
theorem dX8_takeTurn_51 : decode cX8_takeTurn 51 = .ok (.istore 5, 2) := by decide +kernel
theorem dX8_takeTurn_53 : decode cX8_takeTurn 53 = .ok (.aload 4, 2) := by decide +kernel
theorem dX8_takeTurn_55 : decode cX8_takeTurn 55 = .ok (.getfield 58, 3) := by decide +kernel
theorem dX8_takeTurn_58 : decode cX8_takeTurn 58 = .ok (.lookupswitch 217 #[(8, 66), (9, 76), (10, 99), (11, 109), (12, 182), (32, 58)], 58) := by decide +kernel
theorem dX8_takeTurn_116 : decode cX8_takeTurn 116 = .ok (.aload_n 0, 1) := by decide +kernel
theorem dX8_takeTurn_117 : decode cX8_takeTurn 117 = .ok (.aload_n 1, 1) := by decide +kernel
theorem dX8_takeTurn_118 : decode cX8_takeTurn 118 = .ok (.invokevirtual 61, 3) := by decide +kernel
theorem dX8_takeTurn_121 : decode cX8_takeTurn 121 = .ok (.goto 154, 3) := by decide +kernel
theorem dX8_takeTurn_124 : decode cX8_takeTurn 124 = .ok (.aload_n 0, 1) := by decide +kernel
theorem dX8_takeTurn_125 : decode cX8_takeTurn 125 = .ok (.aload_n 1, 1) := by decide +kernel
theorem dX8_takeTurn_126 : decode cX8_takeTurn 126 = .ok (.iload 5, 2) := by decide +kernel
theorem dX8_takeTurn_128 : decode cX8_takeTurn 128 = .ok (.invokevirtual 65, 3) := by decide +kernel
theorem dX8_takeTurn_131 : decode cX8_takeTurn 131 = .ok (.goto 144, 3) := by decide +kernel
theorem dX8_takeTurn_134 : decode cX8_takeTurn 134 = .ok (.aload_n 0, 1) := by decide +kernel
theorem dX8_takeTurn_135 : decode cX8_takeTurn 135 = .ok (.aload_n 1, 1) := by decide +kernel
theorem dX8_takeTurn_136 : decode cX8_takeTurn 136 = .ok (.aload_n 2, 1) := by decide +kernel
theorem dX8_takeTurn_137 : decode cX8_takeTurn 137 = .ok (.iload 5, 2) := by decide +kernel
theorem dX8_takeTurn_139 : decode cX8_takeTurn 139 = .ok (.aload 4, 2) := by decide +kernel
theorem dX8_takeTurn_141 : decode cX8_takeTurn 141 = .ok (.getfield 69, 3) := by decide +kernel
theorem dX8_takeTurn_144 : decode cX8_takeTurn 144 = .ok (.sipush 256, 3) := by decide +kernel
theorem dX8_takeTurn_147 : decode cX8_takeTurn 147 = .ok (.invokestatic 72, 3) := by decide +kernel
theorem dX8_takeTurn_150 : decode cX8_takeTurn 150 = .ok (.iconst (-1), 1) := by decide +kernel
theorem dX8_takeTurn_151 : decode cX8_takeTurn 151 = .ok (.invokevirtual 78, 3) := by decide +kernel
theorem dX8_takeTurn_154 : decode cX8_takeTurn 154 = .ok (.goto 121, 3) := by decide +kernel
theorem dX8_takeTurn_157 : decode cX8_takeTurn 157 = .ok (.aload_n 0, 1) := by decide +kernel
theorem dX8_takeTurn_158 : decode cX8_takeTurn 158 = .ok (.aload_n 1, 1) := by decide +kernel
theorem dX8_takeTurn_159 : decode cX8_takeTurn 159 = .ok (.iload 5, 2) := by decide +kernel
theorem dX8_takeTurn_161 : decode cX8_takeTurn 161 = .ok (.invokevirtual 82, 3) := by decide +kernel
theorem dX8_takeTurn_164 : decode cX8_takeTurn 164 = .ok (.goto 111, 3) := by decide +kernel
theorem dX8_takeTurn_167 : decode cX8_takeTurn 167 = .ok (.aload 4, 2) := by decide +kernel
theorem dX8_takeTurn_169 : decode cX8_takeTurn 169 = .ok (.getfield 69, 3) := by decide +kernel
theorem dX8_takeTurn_172 : decode cX8_takeTurn 172 = .ok (.invokestatic 25, 3) := by decide +kernel
theorem dX8_takeTurn_175 : decode cX8_takeTurn 175 = .ok (.ifCond .eq 50, 3) := by decide +kernel
theorem dX8_takeTurn_178 : decode cX8_takeTurn 178 = .ok (.aload_n 1, 1) := by decide +kernel
theorem dX8_takeTurn_179 : decode cX8_takeTurn 179 = .ok (.getfield 85, 3) := by decide +kernel
theorem dX8_takeTurn_182 : decode cX8_takeTurn 182 = .ok (.aload 4, 2) := by decide +kernel
theorem dX8_takeTurn_184 : decode cX8_takeTurn 184 = .ok (.getfield 69, 3) := by decide +kernel
theorem dX8_takeTurn_187 : decode cX8_takeTurn 187 = .ok (.baload, 1) := by decide +kernel
theorem dX8_takeTurn_188 : decode cX8_takeTurn 188 = .ok (.ifCond .eq 37, 3) := by decide +kernel
theorem dX8_takeTurn_191 : decode cX8_takeTurn 191 = .ok (.aload_n 0, 1) := by decide +kernel
theorem dX8_takeTurn_192 : decode cX8_takeTurn 192 = .ok (.getfield 9, 3) := by decide +kernel
theorem dX8_takeTurn_195 : decode cX8_takeTurn 195 = .ok (.aload 4, 2) := by decide +kernel
theorem dX8_takeTurn_197 : decode cX8_takeTurn 197 = .ok (.getfield 69, 3) := by decide +kernel
theorem dX8_takeTurn_200 : decode cX8_takeTurn 200 = .ok (.iaload, 1) := by decide +kernel
theorem dX8_takeTurn_201 : decode cX8_takeTurn 201 = .ok (.iload 5, 2) := by decide +kernel
theorem dX8_takeTurn_203 : decode cX8_takeTurn 203 = .ok (.if_icmp .ne 22, 3) := by decide +kernel
theorem dX8_takeTurn_206 : decode cX8_takeTurn 206 = .ok (.aload_n 0, 1) := by decide +kernel
theorem dX8_takeTurn_207 : decode cX8_takeTurn 207 = .ok (.aload_n 1, 1) := by decide +kernel
theorem dX8_takeTurn_208 : decode cX8_takeTurn 208 = .ok (.aload_n 2, 1) := by decide +kernel
theorem dX8_takeTurn_209 : decode cX8_takeTurn 209 = .ok (.aload 4, 2) := by decide +kernel
theorem dX8_takeTurn_211 : decode cX8_takeTurn 211 = .ok (.getfield 69, 3) := by decide +kernel
theorem dX8_takeTurn_214 : decode cX8_takeTurn 214 = .ok (.sipush 255, 3) := by decide +kernel
theorem dX8_takeTurn_217 : decode cX8_takeTurn 217 = .ok (.iload 5, 2) := by decide +kernel
theorem dX8_takeTurn_219 : decode cX8_takeTurn 219 = .ok (.invokevirtual 78, 3) := by decide +kernel
theorem dX8_takeTurn_222 : decode cX8_takeTurn 222 = .ok (.goto 53, 3) := by decide +kernel
theorem dX8_takeTurn_225 : decode cX8_takeTurn 225 = .ok (.aload_n 1, 1) := by decide +kernel
theorem dX8_takeTurn_226 : decode cX8_takeTurn 226 = .ok (.iconst 3, 1) := by decide +kernel
theorem dX8_takeTurn_227 : decode cX8_takeTurn 227 = .ok (.iload 5, 2) := by decide +kernel
theorem dX8_takeTurn_229 : decode cX8_takeTurn 229 = .ok (.bipush 50, 2) := by decide +kernel
theorem dX8_takeTurn_231 : decode cX8_takeTurn 231 = .ok (.bipush (-11), 2) := by decide +kernel
theorem dX8_takeTurn_233 : decode cX8_takeTurn 233 = .ok (.iconst 0, 1) := by decide +kernel
theorem dX8_takeTurn_234 : decode cX8_takeTurn 234 = .ok (.invokevirtual 88, 3) := by decide +kernel
theorem dX8_takeTurn_237 : decode cX8_takeTurn 237 = .ok (.goto 38, 3) := by decide +kernel
theorem dX8_takeTurn_240 : decode cX8_takeTurn 240 = .ok (.aload_n 1, 1) := by decide +kernel
theorem dX8_takeTurn_241 : decode cX8_takeTurn 241 = .ok (.iconst 3, 1) := by decide +kernel
theorem dX8_takeTurn_242 : decode cX8_takeTurn 242 = .ok (.iload 5, 2) := by decide +kernel
theorem dX8_takeTurn_244 : decode cX8_takeTurn 244 = .ok (.bipush 50, 2) := by decide +kernel
theorem dX8_takeTurn_246 : decode cX8_takeTurn 246 = .ok (.aload_n 0, 1) := by decide +kernel
theorem dX8_takeTurn_247 : decode cX8_takeTurn 247 = .ok (.getfield 9, 3) := by decide +kernel
theorem dX8_takeTurn_250 : decode cX8_takeTurn 250 = .ok (.iload 5, 2) := by decide +kernel
theorem dX8_takeTurn_252 : decode cX8_takeTurn 252 = .ok (.iaload, 1) := by decide +kernel
theorem dX8_takeTurn_253 : decode cX8_takeTurn 253 = .ok (.iconst (-1), 1) := by decide +kernel
theorem dX8_takeTurn_254 : decode cX8_takeTurn 254 = .ok (.if_icmp .ne 7, 3) := by decide +kernel
theorem dX8_takeTurn_257 : decode cX8_takeTurn 257 = .ok (.iconst 0, 1) := by decide +kernel
theorem dX8_takeTurn_258 : decode cX8_takeTurn 258 = .ok (.goto 10, 3) := by decide +kernel
theorem dX8_takeTurn_261 : decode cX8_takeTurn 261 = .ok (.aload_n 0, 1) := by decide +kernel
theorem dX8_takeTurn_262 : decode cX8_takeTurn 262 = .ok (.getfield 9, 3) := by decide +kernel
theorem dX8_takeTurn_265 : decode cX8_takeTurn 265 = .ok (.iload 5, 2) := by decide +kernel
theorem dX8_takeTurn_267 : decode cX8_takeTurn 267 = .ok (.iaload, 1) := by decide +kernel
theorem dX8_takeTurn_268 : decode cX8_takeTurn 268 = .ok (.iconst 0, 1) := by decide +kernel
theorem dX8_takeTurn_269 : decode cX8_takeTurn 269 = .ok (.invokevirtual 88, 3) := by decide +kernel
theorem dX8_takeTurn_272 : decode cX8_takeTurn 272 = .ok (.goto 3, 3) := by decide +kernel
theorem dX8_takeTurn_275 : decode cX8_takeTurn 275 = .ok (.return_, 1) := by decide +kernel
theorem dX8_fork_0 : decode cX8_fork 0 = .ok (.iconst 5, 1) := by decide +kernel
theorem dX8_fork_1 : decode cX8_fork 1 = .ok (.istore_n 3, 1) := by decide +kernel
theorem dX8_fork_2 : decode cX8_fork 2 = .ok (.iload_n 3, 1) := by decide +kernel
theorem dX8_fork_3 : decode cX8_fork 3 = .ok (.bipush 12, 2) := by decide +kernel
theorem dX8_fork_5 : decode cX8_fork 5 = .ok (.if_icmp .ge 45, 3) := by decide +kernel
theorem dX8_fork_8 : decode cX8_fork 8 = .ok (.aload_n 1, 1) := by decide +kernel
theorem dX8_fork_9 : decode cX8_fork 9 = .ok (.getfield 85, 3) := by decide +kernel
theorem dX8_fork_12 : decode cX8_fork 12 = .ok (.iload_n 3, 1) := by decide +kernel
theorem dX8_fork_13 : decode cX8_fork 13 = .ok (.baload, 1) := by decide +kernel
theorem dX8_fork_14 : decode cX8_fork 14 = .ok (.ifCond .ne 30, 3) := by decide +kernel
theorem dX8_fork_17 : decode cX8_fork 17 = .ok (.aload_n 0, 1) := by decide +kernel
theorem dX8_fork_18 : decode cX8_fork 18 = .ok (.getfield 18, 3) := by decide +kernel
theorem dX8_fork_21 : decode cX8_fork 21 = .ok (.iload_n 3, 1) := by decide +kernel
theorem dX8_fork_22 : decode cX8_fork 22 = .ok (.baload, 1) := by decide +kernel
theorem dX8_fork_23 : decode cX8_fork 23 = .ok (.ifCond .ne 21, 3) := by decide +kernel
theorem dX8_fork_26 : decode cX8_fork 26 = .ok (.aload_n 0, 1) := by decide +kernel
theorem dX8_fork_27 : decode cX8_fork 27 = .ok (.iconst 1, 1) := by decide +kernel
theorem dX8_fork_28 : decode cX8_fork 28 = .ok (.iload_n 3, 1) := by decide +kernel
theorem dX8_fork_29 : decode cX8_fork 29 = .ok (.iload_n 2, 1) := by decide +kernel
theorem dX8_fork_30 : decode cX8_fork 30 = .ok (.invokevirtual 92, 3) := by decide +kernel
theorem dX8_fork_33 : decode cX8_fork 33 = .ok (.aload_n 1, 1) := by decide +kernel
theorem dX8_fork_34 : decode cX8_fork 34 = .ok (.iconst 3, 1) := by decide +kernel
theorem dX8_fork_35 : decode cX8_fork 35 = .ok (.iconst 2, 1) := by decide +kernel
theorem dX8_fork_36 : decode cX8_fork 36 = .ok (.bipush 30, 2) := by decide +kernel
theorem dX8_fork_38 : decode cX8_fork 38 = .ok (.iload_n 2, 1) := by decide +kernel
theorem dX8_fork_39 : decode cX8_fork 39 = .ok (.iload_n 3, 1) := by decide +kernel
theorem dX8_fork_40 : decode cX8_fork 40 = .ok (.invokevirtual 88, 3) := by decide +kernel
theorem dX8_fork_43 : decode cX8_fork 43 = .ok (.return_, 1) := by decide +kernel
theorem dX8_fork_44 : decode cX8_fork 44 = .ok (.iinc 3 1, 3) := by decide +kernel
theorem dX8_fork_47 : decode cX8_fork 47 = .ok (.goto (-45), 3) := by decide +kernel
theorem dX8_fork_50 : decode cX8_fork 50 = .ok (.aload_n 1, 1) := by decide +kernel
theorem dX8_fork_51 : decode cX8_fork 51 = .ok (.iconst 3, 1) := by decide +kernel
theorem dX8_fork_52 : decode cX8_fork 52 = .ok (.iload_n 2, 1) := by decide +kernel
theorem dX8_fork_53 : decode cX8_fork 53 = .ok (.bipush 50, 2) := by decide +kernel
theorem dX8_fork_55 : decode cX8_fork 55 = .ok (.bipush (-9), 2) := by decide +kernel
theorem dX8_fork_57 : decode cX8_fork 57 = .ok (.iconst 0, 1) := by decide +kernel
theorem dX8_fork_58 : decode cX8_fork 58 = .ok (.invokevirtual 88, 3) := by decide +kernel
theorem dX8_fork_61 : decode cX8_fork 61 = .ok (.return_, 1) := by decide +kernel
theorem dX8_end_0 : decode cX8_end 0 = .ok (.iload_n 3, 1) := by decide +kernel
theorem dX8_end_1 : decode cX8_end 1 = .ok (.invokestatic 25, 3) := by decide +kernel
theorem dX8_end_4 : decode cX8_end 4 = .ok (.ifCond .ne 4, 3) := by decide +kernel
theorem dX8_end_7 : decode cX8_end 7 = .ok (.return_, 1) := by decide +kernel
theorem dX8_end_8 : decode cX8_end 8 = .ok (.aload_n 0, 1) := by decide +kernel
theorem dX8_end_9 : decode cX8_end 9 = .ok (.getfield 18, 3) := by decide +kernel
theorem dX8_end_12 : decode cX8_end 12 = .ok (.iload_n 3, 1) := by decide +kernel
theorem dX8_end_13 : decode cX8_end 13 = .ok (.iconst 1, 1) := by decide +kernel
theorem dX8_end_14 : decode cX8_end 14 = .ok (.bastore, 1) := by decide +kernel
theorem dX8_end_15 : decode cX8_end 15 = .ok (.aload_n 0, 1) := by decide +kernel
theorem dX8_end_16 : decode cX8_end 16 = .ok (.getfield 15, 3) := by decide +kernel
theorem dX8_end_19 : decode cX8_end 19 = .ok (.iload_n 3, 1) := by decide +kernel
theorem dX8_end_20 : decode cX8_end 20 = .ok (.iload 4, 2) := by decide +kernel
theorem dX8_end_22 : decode cX8_end 22 = .ok (.iastore, 1) := by decide +kernel
theorem dX8_end_23 : decode cX8_end 23 = .ok (.aload_n 0, 1) := by decide +kernel
theorem dX8_end_24 : decode cX8_end 24 = .ok (.getfield 22, 3) := by decide +kernel
theorem dX8_end_27 : decode cX8_end 27 = .ok (.iload_n 3, 1) := by decide +kernel
theorem dX8_end_28 : decode cX8_end 28 = .ok (.iconst 0, 1) := by decide +kernel
theorem dX8_end_29 : decode cX8_end 29 = .ok (.bastore, 1) := by decide +kernel
theorem dX8_end_30 : decode cX8_end 30 = .ok (.aload_n 2, 1) := by decide +kernel
theorem dX8_end_31 : decode cX8_end 31 = .ok (.iload_n 3, 1) := by decide +kernel
theorem dX8_end_32 : decode cX8_end 32 = .ok (.iconst 0, 1) := by decide +kernel
theorem dX8_end_33 : decode cX8_end 33 = .ok (.invokevirtual 96, 3) := by decide +kernel
theorem dX8_end_36 : decode cX8_end 36 = .ok (.aload_n 1, 1) := by decide +kernel
theorem dX8_end_37 : decode cX8_end 37 = .ok (.iload_n 3, 1) := by decide +kernel
theorem dX8_end_38 : decode cX8_end 38 = .ok (.invokevirtual 102, 3) := by decide +kernel
theorem dX8_end_41 : decode cX8_end 41 = .ok (.aload_n 1, 1) := by decide +kernel
theorem dX8_end_42 : decode cX8_end 42 = .ok (.getfield 29, 3) := by decide +kernel
theorem dX8_end_45 : decode cX8_end 45 = .ok (.iconst 2, 1) := by decide +kernel
theorem dX8_end_46 : decode cX8_end 46 = .ok (.aaload, 1) := by decide +kernel
theorem dX8_end_47 : decode cX8_end 47 = .ok (.iload_n 3, 1) := by decide +kernel
theorem dX8_end_48 : decode cX8_end 48 = .ok (.invokevirtual 105, 3) := by decide +kernel
theorem dX8_end_51 : decode cX8_end 51 = .ok (.aload_n 1, 1) := by decide +kernel
theorem dX8_end_52 : decode cX8_end 52 = .ok (.getfield 29, 3) := by decide +kernel
theorem dX8_end_55 : decode cX8_end 55 = .ok (.iconst 3, 1) := by decide +kernel
theorem dX8_end_56 : decode cX8_end 56 = .ok (.aaload, 1) := by decide +kernel
theorem dX8_end_57 : decode cX8_end 57 = .ok (.iload_n 3, 1) := by decide +kernel
theorem dX8_end_58 : decode cX8_end 58 = .ok (.invokevirtual 105, 3) := by decide +kernel
theorem dX8_end_61 : decode cX8_end 61 = .ok (.aload_n 0, 1) := by decide +kernel
theorem dX8_end_62 : decode cX8_end 62 = .ok (.iconst 0, 1) := by decide +kernel
theorem dX8_end_63 : decode cX8_end 63 = .ok (.iload_n 3, 1) := by decide +kernel
theorem dX8_end_64 : decode cX8_end 64 = .ok (.iload 5, 2) := by decide +kernel
theorem dX8_end_66 : decode cX8_end 66 = .ok (.invokevirtual 92, 3) := by decide +kernel
theorem dX8_end_69 : decode cX8_end 69 = .ok (.aload_n 1, 1) := by decide +kernel
theorem dX8_end_70 : decode cX8_end 70 = .ok (.iconst 3, 1) := by decide +kernel
theorem dX8_end_71 : decode cX8_end 71 = .ok (.iconst 2, 1) := by decide +kernel
theorem dX8_end_72 : decode cX8_end 72 = .ok (.bipush 31, 2) := by decide +kernel
theorem dX8_end_74 : decode cX8_end 74 = .ok (.iload_n 3, 1) := by decide +kernel
theorem dX8_end_75 : decode cX8_end 75 = .ok (.iconst 0, 1) := by decide +kernel
theorem dX8_end_76 : decode cX8_end 76 = .ok (.invokevirtual 88, 3) := by decide +kernel
theorem dX8_end_79 : decode cX8_end 79 = .ok (.return_, 1) := by decide +kernel
theorem dX8_waitFor_0 : decode cX8_waitFor 0 = .ok (.aload_n 0, 1) := by decide +kernel
theorem dX8_waitFor_1 : decode cX8_waitFor 1 = .ok (.iconst 1, 1) := by decide +kernel
theorem dX8_waitFor_2 : decode cX8_waitFor 2 = .ok (.putfield 35, 3) := by decide +kernel
theorem dX8_waitFor_5 : decode cX8_waitFor 5 = .ok (.aload_n 0, 1) := by decide +kernel
theorem dX8_waitFor_6 : decode cX8_waitFor 6 = .ok (.iload_n 1, 1) := by decide +kernel
theorem dX8_waitFor_7 : decode cX8_waitFor 7 = .ok (.putfield 108, 3) := by decide +kernel
theorem dX8_waitFor_10 : decode cX8_waitFor 10 = .ok (.aload_n 0, 1) := by decide +kernel
theorem dX8_waitFor_11 : decode cX8_waitFor 11 = .ok (.iload_n 2, 1) := by decide +kernel
theorem dX8_waitFor_12 : decode cX8_waitFor 12 = .ok (.putfield 111, 3) := by decide +kernel
theorem dX8_waitFor_15 : decode cX8_waitFor 15 = .ok (.aload_n 0, 1) := by decide +kernel
theorem dX8_waitFor_16 : decode cX8_waitFor 16 = .ok (.iload_n 3, 1) := by decide +kernel
theorem dX8_waitFor_17 : decode cX8_waitFor 17 = .ok (.putfield 114, 3) := by decide +kernel
theorem dX8_waitFor_20 : decode cX8_waitFor 20 = .ok (.return_, 1) := by decide +kernel
theorem dX8_await_0 : decode cX8_await 0 = .ok (.iconst 0, 1) := by decide +kernel
theorem dX8_await_1 : decode cX8_await 1 = .ok (.istore_n 3, 1) := by decide +kernel
theorem dX8_await_2 : decode cX8_await 2 = .ok (.iconst 4, 1) := by decide +kernel
theorem dX8_await_3 : decode cX8_await 3 = .ok (.istore 4, 2) := by decide +kernel
theorem dX8_await_5 : decode cX8_await 5 = .ok (.iload 4, 2) := by decide +kernel
theorem dX8_await_7 : decode cX8_await 7 = .ok (.bipush 12, 2) := by decide +kernel
theorem dX8_await_9 : decode cX8_await 9 = .ok (.if_icmp .ge 48, 3) := by decide +kernel
theorem dX8_await_12 : decode cX8_await 12 = .ok (.aload_n 0, 1) := by decide +kernel
theorem dX8_await_13 : decode cX8_await 13 = .ok (.getfield 9, 3) := by decide +kernel
theorem dX8_await_16 : decode cX8_await 16 = .ok (.iload 4, 2) := by decide +kernel
theorem dX8_await_18 : decode cX8_await 18 = .ok (.iaload, 1) := by decide +kernel
theorem dX8_await_19 : decode cX8_await 19 = .ok (.iload_n 2, 1) := by decide +kernel
theorem dX8_await_20 : decode cX8_await 20 = .ok (.if_icmp .ne 31, 3) := by decide +kernel
theorem dX8_await_23 : decode cX8_await 23 = .ok (.iconst 1, 1) := by decide +kernel
theorem dX8_await_24 : decode cX8_await 24 = .ok (.istore_n 3, 1) := by decide +kernel
theorem dX8_await_25 : decode cX8_await 25 = .ok (.aload_n 0, 1) := by decide +kernel
theorem dX8_await_26 : decode cX8_await 26 = .ok (.getfield 18, 3) := by decide +kernel
theorem dX8_await_29 : decode cX8_await 29 = .ok (.iload 4, 2) := by decide +kernel
theorem dX8_await_31 : decode cX8_await 31 = .ok (.baload, 1) := by decide +kernel
theorem dX8_await_32 : decode cX8_await 32 = .ok (.ifCond .eq 19, 3) := by decide +kernel
theorem dX8_await_35 : decode cX8_await 35 = .ok (.aload_n 1, 1) := by decide +kernel
theorem dX8_await_36 : decode cX8_await 36 = .ok (.iconst 3, 1) := by decide +kernel
theorem dX8_await_37 : decode cX8_await 37 = .ok (.iload_n 2, 1) := by decide +kernel
theorem dX8_await_38 : decode cX8_await 38 = .ok (.bipush 50, 2) := by decide +kernel
theorem dX8_await_40 : decode cX8_await 40 = .ok (.aload_n 0, 1) := by decide +kernel
theorem dX8_await_41 : decode cX8_await 41 = .ok (.iload 4, 2) := by decide +kernel
theorem dX8_await_43 : decode cX8_await 43 = .ok (.invokevirtual 117, 3) := by decide +kernel
theorem dX8_await_46 : decode cX8_await 46 = .ok (.iconst 0, 1) := by decide +kernel
theorem dX8_await_47 : decode cX8_await 47 = .ok (.invokevirtual 88, 3) := by decide +kernel
theorem dX8_await_50 : decode cX8_await 50 = .ok (.return_, 1) := by decide +kernel
theorem dX8_await_51 : decode cX8_await 51 = .ok (.iinc 4 1, 3) := by decide +kernel
theorem dX8_await_54 : decode cX8_await 54 = .ok (.goto (-49), 3) := by decide +kernel
theorem dX8_await_57 : decode cX8_await 57 = .ok (.iload_n 3, 1) := by decide +kernel
theorem dX8_await_58 : decode cX8_await 58 = .ok (.ifCond .eq 13, 3) := by decide +kernel
theorem dX8_await_61 : decode cX8_await 61 = .ok (.aload_n 0, 1) := by decide +kernel
theorem dX8_await_62 : decode cX8_await 62 = .ok (.getfield 22, 3) := by decide +kernel
theorem dX8_await_65 : decode cX8_await 65 = .ok (.iload_n 2, 1) := by decide +kernel
theorem dX8_await_66 : decode cX8_await 66 = .ok (.iconst 1, 1) := by decide +kernel
theorem dX8_await_67 : decode cX8_await 67 = .ok (.bastore, 1) := by decide +kernel
theorem dX8_await_68 : decode cX8_await 68 = .ok (.goto 14, 3) := by decide +kernel
theorem dX8_await_71 : decode cX8_await 71 = .ok (.aload_n 1, 1) := by decide +kernel
theorem dX8_await_72 : decode cX8_await 72 = .ok (.iconst 3, 1) := by decide +kernel
theorem dX8_await_73 : decode cX8_await 73 = .ok (.iload_n 2, 1) := by decide +kernel
theorem dX8_await_74 : decode cX8_await 74 = .ok (.bipush 50, 2) := by decide +kernel
theorem dX8_await_76 : decode cX8_await 76 = .ok (.bipush (-10), 2) := by decide +kernel
theorem dX8_await_78 : decode cX8_await 78 = .ok (.iconst 0, 1) := by decide +kernel
theorem dX8_await_79 : decode cX8_await 79 = .ok (.invokevirtual 88, 3) := by decide +kernel
theorem dX8_await_82 : decode cX8_await 82 = .ok (.return_, 1) := by decide +kernel
theorem dX8_collect_0 : decode cX8_collect 0 = .ok (.iload_n 1, 1) := by decide +kernel
theorem dX8_collect_1 : decode cX8_collect 1 = .ok (.invokestatic 25, 3) := by decide +kernel
theorem dX8_collect_4 : decode cX8_collect 4 = .ok (.ifCond .ne 6, 3) := by decide +kernel
theorem dX8_collect_7 : decode cX8_collect 7 = .ok (.bipush (-10), 2) := by decide +kernel
theorem dX8_collect_9 : decode cX8_collect 9 = .ok (.ireturn, 1) := by decide +kernel
theorem dX8_collect_10 : decode cX8_collect 10 = .ok (.aload_n 0, 1) := by decide +kernel
theorem dX8_collect_11 : decode cX8_collect 11 = .ok (.getfield 18, 3) := by decide +kernel
theorem dX8_collect_14 : decode cX8_collect 14 = .ok (.iload_n 1, 1) := by decide +kernel
theorem dX8_collect_15 : decode cX8_collect 15 = .ok (.iconst 0, 1) := by decide +kernel
theorem dX8_collect_16 : decode cX8_collect 16 = .ok (.bastore, 1) := by decide +kernel
theorem dX8_collect_17 : decode cX8_collect 17 = .ok (.aload_n 0, 1) := by decide +kernel
theorem dX8_collect_18 : decode cX8_collect 18 = .ok (.getfield 9, 3) := by decide +kernel
theorem dX8_collect_21 : decode cX8_collect 21 = .ok (.iload_n 1, 1) := by decide +kernel
theorem dX8_collect_22 : decode cX8_collect 22 = .ok (.iconst (-1), 1) := by decide +kernel
theorem dX8_collect_23 : decode cX8_collect 23 = .ok (.iastore, 1) := by decide +kernel
theorem dX8_collect_24 : decode cX8_collect 24 = .ok (.sipush 256, 3) := by decide +kernel
theorem dX8_collect_27 : decode cX8_collect 27 = .ok (.iload_n 1, 1) := by decide +kernel
theorem dX8_collect_28 : decode cX8_collect 28 = .ok (.imul, 1) := by decide +kernel
theorem dX8_collect_29 : decode cX8_collect 29 = .ok (.aload_n 0, 1) := by decide +kernel
theorem dX8_collect_30 : decode cX8_collect 30 = .ok (.getfield 15, 3) := by decide +kernel
theorem dX8_collect_33 : decode cX8_collect 33 = .ok (.iload_n 1, 1) := by decide +kernel
theorem dX8_collect_34 : decode cX8_collect 34 = .ok (.iaload, 1) := by decide +kernel
theorem dX8_collect_35 : decode cX8_collect 35 = .ok (.iadd, 1) := by decide +kernel
theorem dX8_collect_36 : decode cX8_collect 36 = .ok (.ireturn, 1) := by decide +kernel
theorem dX8_goOn_0 : decode cX8_goOn 0 = .ok (.aload_n 0, 1) := by decide +kernel
theorem dX8_goOn_1 : decode cX8_goOn 1 = .ok (.getfield 35, 3) := by decide +kernel
theorem dX8_goOn_4 : decode cX8_goOn 4 = .ok (.ifCond .eq 13, 3) := by decide +kernel
theorem dX8_goOn_7 : decode cX8_goOn 7 = .ok (.aload_n 0, 1) := by decide +kernel
theorem dX8_goOn_8 : decode cX8_goOn 8 = .ok (.getfield 111, 3) := by decide +kernel
theorem dX8_goOn_11 : decode cX8_goOn 11 = .ok (.invokestatic 25, 3) := by decide +kernel
theorem dX8_goOn_14 : decode cX8_goOn 14 = .ok (.ifCond .ne 4, 3) := by decide +kernel
theorem dX8_goOn_17 : decode cX8_goOn 17 = .ok (.return_, 1) := by decide +kernel
theorem dX8_goOn_18 : decode cX8_goOn 18 = .ok (.aload_n 0, 1) := by decide +kernel
theorem dX8_goOn_19 : decode cX8_goOn 19 = .ok (.iconst 0, 1) := by decide +kernel
theorem dX8_goOn_20 : decode cX8_goOn 20 = .ok (.putfield 35, 3) := by decide +kernel
theorem dX8_goOn_23 : decode cX8_goOn 23 = .ok (.aload_n 0, 1) := by decide +kernel
theorem dX8_goOn_24 : decode cX8_goOn 24 = .ok (.getfield 108, 3) := by decide +kernel
theorem dX8_goOn_27 : decode cX8_goOn 27 = .ok (.ifCond .eq 53, 3) := by decide +kernel
theorem dX8_goOn_30 : decode cX8_goOn 30 = .ok (.aload_n 1, 1) := by decide +kernel
theorem dX8_goOn_31 : decode cX8_goOn 31 = .ok (.getfield 85, 3) := by decide +kernel
theorem dX8_goOn_34 : decode cX8_goOn 34 = .ok (.aload_n 0, 1) := by decide +kernel
theorem dX8_goOn_35 : decode cX8_goOn 35 = .ok (.getfield 111, 3) := by decide +kernel
theorem dX8_goOn_38 : decode cX8_goOn 38 = .ok (.iconst 1, 1) := by decide +kernel
theorem dX8_goOn_39 : decode cX8_goOn 39 = .ok (.bastore, 1) := by decide +kernel
theorem dX8_goOn_40 : decode cX8_goOn 40 = .ok (.aload_n 0, 1) := by decide +kernel
theorem dX8_goOn_41 : decode cX8_goOn 41 = .ok (.getfield 9, 3) := by decide +kernel
theorem dX8_goOn_44 : decode cX8_goOn 44 = .ok (.aload_n 0, 1) := by decide +kernel
theorem dX8_goOn_45 : decode cX8_goOn 45 = .ok (.getfield 111, 3) := by decide +kernel
theorem dX8_goOn_48 : decode cX8_goOn 48 = .ok (.aload_n 0, 1) := by decide +kernel
theorem dX8_goOn_49 : decode cX8_goOn 49 = .ok (.getfield 114, 3) := by decide +kernel
theorem dX8_goOn_52 : decode cX8_goOn 52 = .ok (.iastore, 1) := by decide +kernel
theorem dX8_goOn_53 : decode cX8_goOn 53 = .ok (.aload_n 0, 1) := by decide +kernel
theorem dX8_goOn_54 : decode cX8_goOn 54 = .ok (.getfield 15, 3) := by decide +kernel
theorem dX8_goOn_57 : decode cX8_goOn 57 = .ok (.aload_n 0, 1) := by decide +kernel
theorem dX8_goOn_58 : decode cX8_goOn 58 = .ok (.getfield 111, 3) := by decide +kernel
theorem dX8_goOn_61 : decode cX8_goOn 61 = .ok (.iconst 0, 1) := by decide +kernel
theorem dX8_goOn_62 : decode cX8_goOn 62 = .ok (.iastore, 1) := by decide +kernel
theorem dX8_goOn_63 : decode cX8_goOn 63 = .ok (.aload_n 1, 1) := by decide +kernel
theorem dX8_goOn_64 : decode cX8_goOn 64 = .ok (.iconst 3, 1) := by decide +kernel
theorem dX8_goOn_65 : decode cX8_goOn 65 = .ok (.aload_n 0, 1) := by decide +kernel
theorem dX8_goOn_66 : decode cX8_goOn 66 = .ok (.getfield 114, 3) := by decide +kernel
theorem dX8_goOn_69 : decode cX8_goOn 69 = .ok (.bipush 50, 2) := by decide +kernel
theorem dX8_goOn_71 : decode cX8_goOn 71 = .ok (.aload_n 0, 1) := by decide +kernel
theorem dX8_goOn_72 : decode cX8_goOn 72 = .ok (.getfield 111, 3) := by decide +kernel
theorem dX8_goOn_75 : decode cX8_goOn 75 = .ok (.iconst 0, 1) := by decide +kernel
theorem dX8_goOn_76 : decode cX8_goOn 76 = .ok (.invokevirtual 88, 3) := by decide +kernel
theorem dX8_goOn_79 : decode cX8_goOn 79 = .ok (.return_, 1) := by decide +kernel
theorem dX8_goOn_80 : decode cX8_goOn 80 = .ok (.aload_n 0, 1) := by decide +kernel
theorem dX8_goOn_81 : decode cX8_goOn 81 = .ok (.aload_n 0, 1) := by decide +kernel
theorem dX8_goOn_82 : decode cX8_goOn 82 = .ok (.getfield 111, 3) := by decide +kernel
theorem dX8_goOn_85 : decode cX8_goOn 85 = .ok (.invokevirtual 120, 3) := by decide +kernel
theorem dX8_goOn_88 : decode cX8_goOn 88 = .ok (.aload_n 0, 1) := by decide +kernel
theorem dX8_goOn_89 : decode cX8_goOn 89 = .ok (.getfield 9, 3) := by decide +kernel
theorem dX8_goOn_92 : decode cX8_goOn 92 = .ok (.aload_n 0, 1) := by decide +kernel
theorem dX8_goOn_93 : decode cX8_goOn 93 = .ok (.getfield 111, 3) := by decide +kernel
theorem dX8_goOn_96 : decode cX8_goOn 96 = .ok (.iaload, 1) := by decide +kernel
theorem dX8_goOn_97 : decode cX8_goOn 97 = .ok (.istore_n 2, 1) := by decide +kernel
theorem dX8_goOn_98 : decode cX8_goOn 98 = .ok (.iload_n 2, 1) := by decide +kernel
theorem dX8_goOn_99 : decode cX8_goOn 99 = .ok (.iconst (-1), 1) := by decide +kernel
theorem dX8_goOn_100 : decode cX8_goOn 100 = .ok (.if_icmp .ne 16, 3) := by decide +kernel
theorem dX8_goOn_103 : decode cX8_goOn 103 = .ok (.aload_n 0, 1) := by decide +kernel
theorem dX8_goOn_104 : decode cX8_goOn 104 = .ok (.getfield 18, 3) := by decide +kernel
theorem dX8_goOn_107 : decode cX8_goOn 107 = .ok (.aload_n 0, 1) := by decide +kernel
theorem dX8_goOn_108 : decode cX8_goOn 108 = .ok (.getfield 111, 3) := by decide +kernel
theorem dX8_goOn_111 : decode cX8_goOn 111 = .ok (.iconst 0, 1) := by decide +kernel
theorem dX8_goOn_112 : decode cX8_goOn 112 = .ok (.bastore, 1) := by decide +kernel
theorem dX8_goOn_113 : decode cX8_goOn 113 = .ok (.goto 43, 3) := by decide +kernel
theorem dX8_goOn_116 : decode cX8_goOn 116 = .ok (.iload_n 2, 1) := by decide +kernel
theorem dX8_goOn_117 : decode cX8_goOn 117 = .ok (.invokestatic 25, 3) := by decide +kernel
theorem dX8_goOn_120 : decode cX8_goOn 120 = .ok (.ifCond .eq 36, 3) := by decide +kernel
theorem dX8_goOn_123 : decode cX8_goOn 123 = .ok (.aload_n 0, 1) := by decide +kernel
theorem dX8_goOn_124 : decode cX8_goOn 124 = .ok (.getfield 22, 3) := by decide +kernel
theorem dX8_goOn_127 : decode cX8_goOn 127 = .ok (.iload_n 2, 1) := by decide +kernel
theorem dX8_goOn_128 : decode cX8_goOn 128 = .ok (.baload, 1) := by decide +kernel
theorem dX8_goOn_129 : decode cX8_goOn 129 = .ok (.ifCond .eq 27, 3) := by decide +kernel
theorem dX8_goOn_132 : decode cX8_goOn 132 = .ok (.aload_n 0, 1) := by decide +kernel
theorem dX8_goOn_133 : decode cX8_goOn 133 = .ok (.getfield 22, 3) := by decide +kernel
theorem dX8_goOn_136 : decode cX8_goOn 136 = .ok (.iload_n 2, 1) := by decide +kernel
theorem dX8_goOn_137 : decode cX8_goOn 137 = .ok (.iconst 0, 1) := by decide +kernel
theorem dX8_goOn_138 : decode cX8_goOn 138 = .ok (.bastore, 1) := by decide +kernel
theorem dX8_goOn_139 : decode cX8_goOn 139 = .ok (.aload_n 1, 1) := by decide +kernel
theorem dX8_goOn_140 : decode cX8_goOn 140 = .ok (.iconst 3, 1) := by decide +kernel
theorem dX8_goOn_141 : decode cX8_goOn 141 = .ok (.iload_n 2, 1) := by decide +kernel
theorem dX8_goOn_142 : decode cX8_goOn 142 = .ok (.bipush 50, 2) := by decide +kernel
theorem dX8_goOn_144 : decode cX8_goOn 144 = .ok (.aload_n 0, 1) := by decide +kernel
theorem dX8_goOn_145 : decode cX8_goOn 145 = .ok (.aload_n 0, 1) := by decide +kernel
theorem dX8_goOn_146 : decode cX8_goOn 146 = .ok (.getfield 111, 3) := by decide +kernel
theorem dX8_goOn_149 : decode cX8_goOn 149 = .ok (.invokevirtual 117, 3) := by decide +kernel
theorem dX8_goOn_152 : decode cX8_goOn 152 = .ok (.iconst 0, 1) := by decide +kernel
theorem dX8_goOn_153 : decode cX8_goOn 153 = .ok (.invokevirtual 88, 3) := by decide +kernel
theorem dX8_goOn_156 : decode cX8_goOn 156 = .ok (.aload_n 0, 1) := by decide +kernel
theorem dX8_goOn_157 : decode cX8_goOn 157 = .ok (.getfield 114, 3) := by decide +kernel
theorem dX8_goOn_160 : decode cX8_goOn 160 = .ok (.iconst (-1), 1) := by decide +kernel
theorem dX8_goOn_161 : decode cX8_goOn 161 = .ok (.if_icmp .eq 16, 3) := by decide +kernel
theorem dX8_goOn_164 : decode cX8_goOn 164 = .ok (.aload_n 1, 1) := by decide +kernel
theorem dX8_goOn_165 : decode cX8_goOn 165 = .ok (.iconst 3, 1) := by decide +kernel
theorem dX8_goOn_166 : decode cX8_goOn 166 = .ok (.aload_n 0, 1) := by decide +kernel
theorem dX8_goOn_167 : decode cX8_goOn 167 = .ok (.getfield 114, 3) := by decide +kernel
theorem dX8_goOn_170 : decode cX8_goOn 170 = .ok (.bipush 50, 2) := by decide +kernel
theorem dX8_goOn_172 : decode cX8_goOn 172 = .ok (.iconst 0, 1) := by decide +kernel
theorem dX8_goOn_173 : decode cX8_goOn 173 = .ok (.iconst 0, 1) := by decide +kernel
theorem dX8_goOn_174 : decode cX8_goOn 174 = .ok (.invokevirtual 88, 3) := by decide +kernel
theorem dX8_goOn_177 : decode cX8_goOn 177 = .ok (.return_, 1) := by decide +kernel
theorem dX8_leaveChildren_0 : decode cX8_leaveChildren 0 = .ok (.iconst 4, 1) := by decide +kernel
theorem dX8_leaveChildren_1 : decode cX8_leaveChildren 1 = .ok (.istore_n 2, 1) := by decide +kernel
theorem dX8_leaveChildren_2 : decode cX8_leaveChildren 2 = .ok (.iload_n 2, 1) := by decide +kernel
theorem dX8_leaveChildren_3 : decode cX8_leaveChildren 3 = .ok (.bipush 12, 2) := by decide +kernel
theorem dX8_leaveChildren_5 : decode cX8_leaveChildren 5 = .ok (.if_icmp .ge 33, 3) := by decide +kernel
theorem dX8_leaveChildren_8 : decode cX8_leaveChildren 8 = .ok (.aload_n 0, 1) := by decide +kernel
theorem dX8_leaveChildren_9 : decode cX8_leaveChildren 9 = .ok (.getfield 9, 3) := by decide +kernel
theorem dX8_leaveChildren_12 : decode cX8_leaveChildren 12 = .ok (.iload_n 2, 1) := by decide +kernel
theorem dX8_leaveChildren_13 : decode cX8_leaveChildren 13 = .ok (.iaload, 1) := by decide +kernel
theorem dX8_leaveChildren_14 : decode cX8_leaveChildren 14 = .ok (.iload_n 1, 1) := by decide +kernel
theorem dX8_leaveChildren_15 : decode cX8_leaveChildren 15 = .ok (.if_icmp .ne 17, 3) := by decide +kernel
theorem dX8_leaveChildren_18 : decode cX8_leaveChildren 18 = .ok (.aload_n 0, 1) := by decide +kernel
theorem dX8_leaveChildren_19 : decode cX8_leaveChildren 19 = .ok (.getfield 9, 3) := by decide +kernel
theorem dX8_leaveChildren_22 : decode cX8_leaveChildren 22 = .ok (.iload_n 2, 1) := by decide +kernel
theorem dX8_leaveChildren_23 : decode cX8_leaveChildren 23 = .ok (.iconst (-1), 1) := by decide +kernel
theorem dX8_leaveChildren_24 : decode cX8_leaveChildren 24 = .ok (.iastore, 1) := by decide +kernel
theorem dX8_leaveChildren_25 : decode cX8_leaveChildren 25 = .ok (.aload_n 0, 1) := by decide +kernel
theorem dX8_leaveChildren_26 : decode cX8_leaveChildren 26 = .ok (.getfield 18, 3) := by decide +kernel
theorem dX8_leaveChildren_29 : decode cX8_leaveChildren 29 = .ok (.iload_n 2, 1) := by decide +kernel
theorem dX8_leaveChildren_30 : decode cX8_leaveChildren 30 = .ok (.iconst 0, 1) := by decide +kernel
theorem dX8_leaveChildren_31 : decode cX8_leaveChildren 31 = .ok (.bastore, 1) := by decide +kernel
theorem dX8_leaveChildren_32 : decode cX8_leaveChildren 32 = .ok (.iinc 2 1, 3) := by decide +kernel
theorem dX8_leaveChildren_35 : decode cX8_leaveChildren 35 = .ok (.goto (-33), 3) := by decide +kernel
theorem dX8_leaveChildren_38 : decode cX8_leaveChildren 38 = .ok (.return_, 1) := by decide +kernel
end
section
theorem dX9_init_0 : decode cX9_init 0 = .ok (.aload_n 0, 1) := by decide +kernel
theorem dX9_init_1 : decode cX9_init 1 = .ok (.invokespecial 3, 3) := by decide +kernel
theorem dX9_init_4 : decode cX9_init 4 = .ok (.aload_n 0, 1) := by decide +kernel
theorem dX9_init_5 : decode cX9_init 5 = .ok (.bipush 12, 2) := by decide +kernel
theorem dX9_init_7 : decode cX9_init 7 = .ok (.newarray .boolean, 2) := by decide +kernel
theorem dX9_init_9 : decode cX9_init 9 = .ok (.putfield 9, 3) := by decide +kernel
theorem dX9_init_12 : decode cX9_init 12 = .ok (.aload_n 0, 1) := by decide +kernel
theorem dX9_init_13 : decode cX9_init 13 = .ok (.bipush 12, 2) := by decide +kernel
theorem dX9_init_15 : decode cX9_init 15 = .ok (.newarray .int, 2) := by decide +kernel
theorem dX9_init_17 : decode cX9_init 17 = .ok (.putfield 15, 3) := by decide +kernel
theorem dX9_init_20 : decode cX9_init 20 = .ok (.aload_n 0, 1) := by decide +kernel
theorem dX9_init_21 : decode cX9_init 21 = .ok (.bipush 12, 2) := by decide +kernel
theorem dX9_init_23 : decode cX9_init 23 = .ok (.newarray .int, 2) := by decide +kernel
theorem dX9_init_25 : decode cX9_init 25 = .ok (.putfield 19, 3) := by decide +kernel
theorem dX9_init_28 : decode cX9_init 28 = .ok (.return_, 1) := by decide +kernel
theorem dX9_hasCall_0 : decode cX9_hasCall 0 = .ok (.iload_n 1, 1) := by decide +kernel
theorem dX9_hasCall_1 : decode cX9_hasCall 1 = .ok (.invokestatic 22, 3) := by decide +kernel
theorem dX9_hasCall_4 : decode cX9_hasCall 4 = .ok (.ifCond .eq 16, 3) := by decide +kernel
theorem dX9_hasCall_7 : decode cX9_hasCall 7 = .ok (.aload_n 0, 1) := by decide +kernel
theorem dX9_hasCall_8 : decode cX9_hasCall 8 = .ok (.getfield 9, 3) := by decide +kernel
theorem dX9_hasCall_11 : decode cX9_hasCall 11 = .ok (.iload_n 1, 1) := by decide +kernel
theorem dX9_hasCall_12 : decode cX9_hasCall 12 = .ok (.baload, 1) := by decide +kernel
theorem dX9_hasCall_13 : decode cX9_hasCall 13 = .ok (.ifCond .eq 7, 3) := by decide +kernel
theorem dX9_hasCall_16 : decode cX9_hasCall 16 = .ok (.iconst 1, 1) := by decide +kernel
theorem dX9_hasCall_17 : decode cX9_hasCall 17 = .ok (.goto 4, 3) := by decide +kernel
theorem dX9_hasCall_20 : decode cX9_hasCall 20 = .ok (.iconst 0, 1) := by decide +kernel
theorem dX9_hasCall_21 : decode cX9_hasCall 21 = .ok (.ireturn, 1) := by decide +kernel
theorem dX9_setCall_0 : decode cX9_setCall 0 = .ok (.iload_n 1, 1) := by decide +kernel
theorem dX9_setCall_1 : decode cX9_setCall 1 = .ok (.invokestatic 22, 3) := by decide +kernel
theorem dX9_setCall_4 : decode cX9_setCall 4 = .ok (.ifCond .eq 10, 3) := by decide +kernel
theorem dX9_setCall_7 : decode cX9_setCall 7 = .ok (.aload_n 0, 1) := by decide +kernel
theorem dX9_setCall_8 : decode cX9_setCall 8 = .ok (.getfield 9, 3) := by decide +kernel
theorem dX9_setCall_11 : decode cX9_setCall 11 = .ok (.iload_n 1, 1) := by decide +kernel
theorem dX9_setCall_12 : decode cX9_setCall 12 = .ok (.iload_n 2, 1) := by decide +kernel
theorem dX9_setCall_13 : decode cX9_setCall 13 = .ok (.bastore, 1) := by decide +kernel
theorem dX9_setCall_14 : decode cX9_setCall 14 = .ok (.return_, 1) := by decide +kernel
theorem dX9_takeTurn_0 : decode cX9_takeTurn 0 = .ok (.iload_n 2, 1) := by decide +kernel
theorem dX9_takeTurn_1 : decode cX9_takeTurn 1 = .ok (.invokestatic 22, 3) := by decide +kernel
theorem dX9_takeTurn_4 : decode cX9_takeTurn 4 = .ok (.ifCond .eq 16, 3) := by decide +kernel
theorem dX9_takeTurn_7 : decode cX9_takeTurn 7 = .ok (.aload_n 1, 1) := by decide +kernel
theorem dX9_takeTurn_8 : decode cX9_takeTurn 8 = .ok (.getfield 26, 3) := by decide +kernel
theorem dX9_takeTurn_11 : decode cX9_takeTurn 11 = .ok (.iload_n 2, 1) := by decide +kernel
theorem dX9_takeTurn_12 : decode cX9_takeTurn 12 = .ok (.aaload, 1) := by decide +kernel
theorem dX9_takeTurn_13 : decode cX9_takeTurn 13 = .ok (.iconst 0, 1) := by decide +kernel
theorem dX9_takeTurn_14 : decode cX9_takeTurn 14 = .ok (.invokevirtual 32, 3) := by decide +kernel
theorem dX9_takeTurn_17 : decode cX9_takeTurn 17 = .ok (.goto 4, 3) := by decide +kernel
theorem dX9_takeTurn_20 : decode cX9_takeTurn 20 = .ok (.aconst_null, 1) := by decide +kernel
theorem dX9_takeTurn_21 : decode cX9_takeTurn 21 = .ok (.astore_n 3, 1) := by decide +kernel
theorem dX9_takeTurn_22 : decode cX9_takeTurn 22 = .ok (.aload_n 3, 1) := by decide +kernel
theorem dX9_takeTurn_23 : decode cX9_takeTurn 23 = .ok (.ifnull 39, 3) := by decide +kernel
theorem dX9_takeTurn_26 : decode cX9_takeTurn 26 = .ok (.aload_n 3, 1) := by decide +kernel
theorem dX9_takeTurn_27 : decode cX9_takeTurn 27 = .ok (.getfield 38, 3) := by decide +kernel
theorem dX9_takeTurn_30 : decode cX9_takeTurn 30 = .ok (.bipush 50, 2) := by decide +kernel
theorem dX9_takeTurn_32 : decode cX9_takeTurn 32 = .ok (.if_icmp .ne 30, 3) := by decide +kernel
theorem dX9_takeTurn_35 : decode cX9_takeTurn 35 = .ok (.aload_n 0, 1) := by decide +kernel
theorem dX9_takeTurn_36 : decode cX9_takeTurn 36 = .ok (.getfield 15, 3) := by decide +kernel
theorem dX9_takeTurn_39 : decode cX9_takeTurn 39 = .ok (.iload_n 2, 1) := by decide +kernel
theorem dX9_takeTurn_40 : decode cX9_takeTurn 40 = .ok (.aload_n 3, 1) := by decide +kernel
theorem dX9_takeTurn_41 : decode cX9_takeTurn 41 = .ok (.getfield 44, 3) := by decide +kernel
theorem dX9_takeTurn_44 : decode cX9_takeTurn 44 = .ok (.iastore, 1) := by decide +kernel
theorem dX9_takeTurn_45 : decode cX9_takeTurn 45 = .ok (.aload_n 0, 1) := by decide +kernel
theorem dX9_takeTurn_46 : decode cX9_takeTurn 46 = .ok (.getfield 19, 3) := by decide +kernel
theorem dX9_takeTurn_49 : decode cX9_takeTurn 49 = .ok (.iload_n 2, 1) := by decide +kernel
theorem dX9_takeTurn_50 : decode cX9_takeTurn 50 = .ok (.dup2, 1) := by decide +kernel
theorem dX9_takeTurn_51 : decode cX9_takeTurn 51 = .ok (.iaload, 1) := by decide +kernel
theorem dX9_takeTurn_52 : decode cX9_takeTurn 52 = .ok (.iconst 1, 1) := by decide +kernel
theorem dX9_takeTurn_53 : decode cX9_takeTurn 53 = .ok (.iadd, 1) := by decide +kernel
theorem dX9_takeTurn_54 : decode cX9_takeTurn 54 = .ok (.iastore, 1) := by decide +kernel
theorem dX9_takeTurn_55 : decode cX9_takeTurn 55 = .ok (.aload_n 0, 1) := by decide +kernel
theorem dX9_takeTurn_56 : decode cX9_takeTurn 56 = .ok (.getfield 9, 3) := by decide +kernel
theorem dX9_takeTurn_59 : decode cX9_takeTurn 59 = .ok (.iload_n 2, 1) := by decide +kernel
theorem dX9_takeTurn_60 : decode cX9_takeTurn 60 = .ok (.iconst 0, 1) := by decide +kernel
theorem dX9_takeTurn_61 : decode cX9_takeTurn 61 = .ok (.bastore, 1) := by decide +kernel
theorem dX9_takeTurn_62 : decode cX9_takeTurn 62 = .ok (.return_, 1) := by decide +kernel
end
section
theorem dX10_init_0 : decode cX10_init 0 = .ok (.aload_n 0, 1) := by decide +kernel
theorem dX10_init_1 : decode cX10_init 1 = .ok (.invokespecial 3, 3) := by decide +kernel
theorem dX10_init_4 : decode cX10_init 4 = .ok (.aload_n 0, 1) := by decide +kernel
theorem dX10_init_5 : decode cX10_init 5 = .ok (.new 9, 3) := by decide +kernel
theorem dX10_init_8 : decode cX10_init 8 = .ok (.dup, 1) := by decide +kernel
theorem dX10_init_9 : decode cX10_init 9 = .ok (.invokespecial 11, 3) := by decide +kernel
theorem dX10_init_12 : decode cX10_init 12 = .ok (.putfield 12, 3) := by decide +kernel
theorem dX10_init_15 : decode cX10_init 15 = .ok (.aload_n 0, 1) := by decide +kernel
theorem dX10_init_16 : decode cX10_init 16 = .ok (.new 16, 3) := by decide +kernel
theorem dX10_init_19 : decode cX10_init 19 = .ok (.dup, 1) := by decide +kernel
theorem dX10_init_20 : decode cX10_init 20 = .ok (.invokespecial 18, 3) := by decide +kernel
theorem dX10_init_23 : decode cX10_init 23 = .ok (.putfield 19, 3) := by decide +kernel
theorem dX10_init_26 : decode cX10_init 26 = .ok (.aload_n 0, 1) := by decide +kernel
theorem dX10_init_27 : decode cX10_init 27 = .ok (.new 23, 3) := by decide +kernel
theorem dX10_init_30 : decode cX10_init 30 = .ok (.dup, 1) := by decide +kernel
theorem dX10_init_31 : decode cX10_init 31 = .ok (.invokespecial 25, 3) := by decide +kernel
theorem dX10_init_34 : decode cX10_init 34 = .ok (.putfield 26, 3) := by decide +kernel
theorem dX10_init_37 : decode cX10_init 37 = .ok (.aload_n 0, 1) := by decide +kernel
theorem dX10_init_38 : decode cX10_init 38 = .ok (.new 30, 3) := by decide +kernel
theorem dX10_init_41 : decode cX10_init 41 = .ok (.dup, 1) := by decide +kernel
theorem dX10_init_42 : decode cX10_init 42 = .ok (.invokespecial 32, 3) := by decide +kernel
theorem dX10_init_45 : decode cX10_init 45 = .ok (.putfield 33, 3) := by decide +kernel
theorem dX10_init_48 : decode cX10_init 48 = .ok (.aload_n 0, 1) := by decide +kernel
theorem dX10_init_49 : decode cX10_init 49 = .ok (.new 37, 3) := by decide +kernel
theorem dX10_init_52 : decode cX10_init 52 = .ok (.dup, 1) := by decide +kernel
theorem dX10_init_53 : decode cX10_init 53 = .ok (.invokespecial 39, 3) := by decide +kernel
theorem dX10_init_56 : decode cX10_init 56 = .ok (.putfield 40, 3) := by decide +kernel
theorem dX10_init_59 : decode cX10_init 59 = .ok (.aload_n 0, 1) := by decide +kernel
theorem dX10_init_60 : decode cX10_init 60 = .ok (.new 44, 3) := by decide +kernel
theorem dX10_init_63 : decode cX10_init 63 = .ok (.dup, 1) := by decide +kernel
theorem dX10_init_64 : decode cX10_init 64 = .ok (.invokespecial 46, 3) := by decide +kernel
theorem dX10_init_67 : decode cX10_init 67 = .ok (.putfield 47, 3) := by decide +kernel
theorem dX10_init_70 : decode cX10_init 70 = .ok (.aload_n 0, 1) := by decide +kernel
theorem dX10_init_71 : decode cX10_init 71 = .ok (.iconst 0, 1) := by decide +kernel
theorem dX10_init_72 : decode cX10_init 72 = .ok (.putfield 51, 3) := by decide +kernel
theorem dX10_init_75 : decode cX10_init 75 = .ok (.aload_n 0, 1) := by decide +kernel
theorem dX10_init_76 : decode cX10_init 76 = .ok (.iconst 0, 1) := by decide +kernel
theorem dX10_init_77 : decode cX10_init 77 = .ok (.putfield 55, 3) := by decide +kernel
theorem dX10_init_80 : decode cX10_init 80 = .ok (.aload_n 0, 1) := by decide +kernel
theorem dX10_init_81 : decode cX10_init 81 = .ok (.iconst 0, 1) := by decide +kernel
theorem dX10_init_82 : decode cX10_init 82 = .ok (.putfield 58, 3) := by decide +kernel
theorem dX10_init_85 : decode cX10_init 85 = .ok (.return_, 1) := by decide +kernel
theorem dX10_call_0 : decode cX10_call 0 = .ok (.iload_n 1, 1) := by decide +kernel
theorem dX10_call_1 : decode cX10_call 1 = .ok (.invokestatic 61, 3) := by decide +kernel
theorem dX10_call_4 : decode cX10_call 4 = .ok (.ifCond .eq 15, 3) := by decide +kernel
theorem dX10_call_7 : decode cX10_call 7 = .ok (.aload_n 0, 1) := by decide +kernel
theorem dX10_call_8 : decode cX10_call 8 = .ok (.getfield 12, 3) := by decide +kernel
theorem dX10_call_11 : decode cX10_call 11 = .ok (.getfield 65, 3) := by decide +kernel
theorem dX10_call_14 : decode cX10_call 14 = .ok (.iload_n 1, 1) := by decide +kernel
theorem dX10_call_15 : decode cX10_call 15 = .ok (.baload, 1) := by decide +kernel
theorem dX10_call_16 : decode cX10_call 16 = .ok (.ifCond .ne 5, 3) := by decide +kernel
theorem dX10_call_19 : decode cX10_call 19 = .ok (.iconst 1, 1) := by decide +kernel
theorem dX10_call_20 : decode cX10_call 20 = .ok (.ireturn, 1) := by decide +kernel
theorem dX10_call_21 : decode cX10_call 21 = .ok (.aload_n 0, 1) := by decide +kernel
theorem dX10_call_22 : decode cX10_call 22 = .ok (.getfield 47, 3) := by decide +kernel
theorem dX10_call_25 : decode cX10_call 25 = .ok (.iload_n 1, 1) := by decide +kernel
theorem dX10_call_26 : decode cX10_call 26 = .ok (.invokevirtual 69, 3) := by decide +kernel
theorem dX10_call_29 : decode cX10_call 29 = .ok (.ifCond .eq 5, 3) := by decide +kernel
theorem dX10_call_32 : decode cX10_call 32 = .ok (.iconst 2, 1) := by decide +kernel
theorem dX10_call_33 : decode cX10_call 33 = .ok (.ireturn, 1) := by decide +kernel
theorem dX10_call_34 : decode cX10_call 34 = .ok (.iload_n 2, 1) := by decide +kernel
theorem dX10_call_35 : decode cX10_call 35 = .ok (.iconst 1, 1) := by decide +kernel
theorem dX10_call_36 : decode cX10_call 36 = .ok (.if_icmp .lt 9, 3) := by decide +kernel
theorem dX10_call_39 : decode cX10_call 39 = .ok (.iload_n 2, 1) := by decide +kernel
theorem dX10_call_40 : decode cX10_call 40 = .ok (.bipush 12, 2) := by decide +kernel
theorem dX10_call_42 : decode cX10_call 42 = .ok (.if_icmp .le 5, 3) := by decide +kernel
theorem dX10_call_45 : decode cX10_call 45 = .ok (.iconst 3, 1) := by decide +kernel
theorem dX10_call_46 : decode cX10_call 46 = .ok (.ireturn, 1) := by decide +kernel
theorem dX10_call_47 : decode cX10_call 47 = .ok (.aload_n 0, 1) := by decide +kernel
theorem dX10_call_48 : decode cX10_call 48 = .ok (.getfield 12, 3) := by decide +kernel
theorem dX10_call_51 : decode cX10_call 51 = .ok (.iload_n 1, 1) := by decide +kernel
theorem dX10_call_52 : decode cX10_call 52 = .ok (.iload_n 2, 1) := by decide +kernel
theorem dX10_call_53 : decode cX10_call 53 = .ok (.bipush 8, 2) := by decide +kernel
theorem dX10_call_55 : decode cX10_call 55 = .ok (.if_icmp .ge 7, 3) := by decide +kernel
theorem dX10_call_58 : decode cX10_call 58 = .ok (.iconst 2, 1) := by decide +kernel
theorem dX10_call_59 : decode cX10_call 59 = .ok (.goto 4, 3) := by decide +kernel
theorem dX10_call_62 : decode cX10_call 62 = .ok (.iconst 3, 1) := by decide +kernel
theorem dX10_call_63 : decode cX10_call 63 = .ok (.iload_n 2, 1) := by decide +kernel
theorem dX10_call_64 : decode cX10_call 64 = .ok (.iload_n 3, 1) := by decide +kernel
theorem dX10_call_65 : decode cX10_call 65 = .ok (.iload 4, 2) := by decide +kernel
theorem dX10_call_67 : decode cX10_call 67 = .ok (.invokevirtual 72, 3) := by decide +kernel
theorem dX10_call_70 : decode cX10_call 70 = .ok (.ifCond .eq 5, 3) := by decide +kernel
theorem dX10_call_73 : decode cX10_call 73 = .ok (.iconst 4, 1) := by decide +kernel
theorem dX10_call_74 : decode cX10_call 74 = .ok (.ireturn, 1) := by decide +kernel
theorem dX10_call_75 : decode cX10_call 75 = .ok (.aload_n 0, 1) := by decide +kernel
theorem dX10_call_76 : decode cX10_call 76 = .ok (.getfield 47, 3) := by decide +kernel
theorem dX10_call_79 : decode cX10_call 79 = .ok (.iload_n 1, 1) := by decide +kernel
theorem dX10_call_80 : decode cX10_call 80 = .ok (.iconst 1, 1) := by decide +kernel
theorem dX10_call_81 : decode cX10_call 81 = .ok (.invokevirtual 76, 3) := by decide +kernel
theorem dX10_call_84 : decode cX10_call 84 = .ok (.iconst 0, 1) := by decide +kernel
theorem dX10_call_85 : decode cX10_call 85 = .ok (.ireturn, 1) := by decide +kernel
theorem dX10_steps_0 : decode cX10_steps 0 = .ok (.iload_n 1, 1) := by decide +kernel
theorem dX10_steps_1 : decode cX10_steps 1 = .ok (.ifCond .lt 10, 3) := by decide +kernel
theorem dX10_steps_4 : decode cX10_steps 4 = .ok (.iload_n 1, 1) := by decide +kernel
theorem dX10_steps_5 : decode cX10_steps 5 = .ok (.sipush 20000, 3) := by decide +kernel
theorem dX10_steps_8 : decode cX10_steps 8 = .ok (.if_icmp .le 5, 3) := by decide +kernel
theorem dX10_steps_11 : decode cX10_steps 11 = .ok (.iconst (-1), 1) := by decide +kernel
theorem dX10_steps_12 : decode cX10_steps 12 = .ok (.ireturn, 1) := by decide +kernel
theorem dX10_steps_13 : decode cX10_steps 13 = .ok (.iconst 0, 1) := by decide +kernel
theorem dX10_steps_14 : decode cX10_steps 14 = .ok (.istore_n 2, 1) := by decide +kernel
theorem dX10_steps_15 : decode cX10_steps 15 = .ok (.iload_n 2, 1) := by decide +kernel
theorem dX10_steps_16 : decode cX10_steps 16 = .ok (.iload_n 1, 1) := by decide +kernel
theorem dX10_steps_17 : decode cX10_steps 17 = .ok (.if_icmp .ge 13, 3) := by decide +kernel
theorem dX10_steps_20 : decode cX10_steps 20 = .ok (.aload_n 0, 1) := by decide +kernel
theorem dX10_steps_21 : decode cX10_steps 21 = .ok (.invokevirtual 80, 3) := by decide +kernel
theorem dX10_steps_24 : decode cX10_steps 24 = .ok (.iinc 2 1, 3) := by decide +kernel
theorem dX10_steps_27 : decode cX10_steps 27 = .ok (.goto (-12), 3) := by decide +kernel
theorem dX10_steps_30 : decode cX10_steps 30 = .ok (.aload_n 0, 1) := by decide +kernel
theorem dX10_steps_31 : decode cX10_steps 31 = .ok (.getfield 51, 3) := by decide +kernel
theorem dX10_steps_34 : decode cX10_steps 34 = .ok (.ireturn, 1) := by decide +kernel
theorem dX10_until_0 : decode cX10_until 0 = .ok (.iload_n 1, 1) := by decide +kernel
theorem dX10_until_1 : decode cX10_until 1 = .ok (.invokestatic 61, 3) := by decide +kernel
theorem dX10_until_4 : decode cX10_until 4 = .ok (.ifCond .eq 14, 3) := by decide +kernel
theorem dX10_until_7 : decode cX10_until 7 = .ok (.iload_n 2, 1) := by decide +kernel
theorem dX10_until_8 : decode cX10_until 8 = .ok (.ifCond .lt 10, 3) := by decide +kernel
theorem dX10_until_11 : decode cX10_until 11 = .ok (.iload_n 2, 1) := by decide +kernel
theorem dX10_until_12 : decode cX10_until 12 = .ok (.sipush 20000, 3) := by decide +kernel
theorem dX10_until_15 : decode cX10_until 15 = .ok (.if_icmp .le 5, 3) := by decide +kernel
theorem dX10_until_18 : decode cX10_until 18 = .ok (.iconst (-1), 1) := by decide +kernel
theorem dX10_until_19 : decode cX10_until 19 = .ok (.ireturn, 1) := by decide +kernel
theorem dX10_until_20 : decode cX10_until 20 = .ok (.iconst 0, 1) := by decide +kernel
theorem dX10_until_21 : decode cX10_until 21 = .ok (.istore_n 3, 1) := by decide +kernel
theorem dX10_until_22 : decode cX10_until 22 = .ok (.iload_n 3, 1) := by decide +kernel
theorem dX10_until_23 : decode cX10_until 23 = .ok (.iload_n 2, 1) := by decide +kernel
theorem dX10_until_24 : decode cX10_until 24 = .ok (.if_icmp .ge 24, 3) := by decide +kernel
theorem dX10_until_27 : decode cX10_until 27 = .ok (.aload_n 0, 1) := by decide +kernel
theorem dX10_until_28 : decode cX10_until 28 = .ok (.getfield 47, 3) := by decide +kernel
theorem dX10_until_31 : decode cX10_until 31 = .ok (.iload_n 1, 1) := by decide +kernel
theorem dX10_until_32 : decode cX10_until 32 = .ok (.invokevirtual 69, 3) := by decide +kernel
theorem dX10_until_35 : decode cX10_until 35 = .ok (.ifCond .eq 13, 3) := by decide +kernel
theorem dX10_until_38 : decode cX10_until 38 = .ok (.aload_n 0, 1) := by decide +kernel
theorem dX10_until_39 : decode cX10_until 39 = .ok (.invokevirtual 80, 3) := by decide +kernel
theorem dX10_until_42 : decode cX10_until 42 = .ok (.iinc 3 1, 3) := by decide +kernel
theorem dX10_until_45 : decode cX10_until 45 = .ok (.goto (-23), 3) := by decide +kernel
theorem dX10_until_48 : decode cX10_until 48 = .ok (.iload_n 3, 1) := by decide +kernel
theorem dX10_until_49 : decode cX10_until 49 = .ok (.ireturn, 1) := by decide +kernel
theorem dX10_crash_0 : decode cX10_crash 0 = .ok (.aload_n 0, 1) := by decide +kernel
theorem dX10_crash_1 : decode cX10_crash 1 = .ok (.getfield 12, 3) := by decide +kernel
theorem dX10_crash_4 : decode cX10_crash 4 = .ok (.getfield 65, 3) := by decide +kernel
theorem dX10_crash_7 : decode cX10_crash 7 = .ok (.iconst 1, 1) := by decide +kernel
theorem dX10_crash_8 : decode cX10_crash 8 = .ok (.baload, 1) := by decide +kernel
theorem dX10_crash_9 : decode cX10_crash 9 = .ok (.ifCond .ne 5, 3) := by decide +kernel
theorem dX10_crash_12 : decode cX10_crash 12 = .ok (.iconst 0, 1) := by decide +kernel
theorem dX10_crash_13 : decode cX10_crash 13 = .ok (.ireturn, 1) := by decide +kernel
theorem dX10_crash_14 : decode cX10_crash 14 = .ok (.aload_n 0, 1) := by decide +kernel
theorem dX10_crash_15 : decode cX10_crash 15 = .ok (.invokevirtual 83, 3) := by decide +kernel
theorem dX10_crash_18 : decode cX10_crash 18 = .ok (.iconst 1, 1) := by decide +kernel
theorem dX10_crash_19 : decode cX10_crash 19 = .ok (.ireturn, 1) := by decide +kernel
theorem dX10_hang_0 : decode cX10_hang 0 = .ok (.aload_n 0, 1) := by decide +kernel
theorem dX10_hang_1 : decode cX10_hang 1 = .ok (.getfield 12, 3) := by decide +kernel
theorem dX10_hang_4 : decode cX10_hang 4 = .ok (.getfield 65, 3) := by decide +kernel
theorem dX10_hang_7 : decode cX10_hang 7 = .ok (.iconst 1, 1) := by decide +kernel
theorem dX10_hang_8 : decode cX10_hang 8 = .ok (.baload, 1) := by decide +kernel
theorem dX10_hang_9 : decode cX10_hang 9 = .ok (.ifCond .eq 13, 3) := by decide +kernel
theorem dX10_hang_12 : decode cX10_hang 12 = .ok (.aload_n 0, 1) := by decide +kernel
theorem dX10_hang_13 : decode cX10_hang 13 = .ok (.getfield 26, 3) := by decide +kernel
theorem dX10_hang_16 : decode cX10_hang 16 = .ok (.getfield 86, 3) := by decide +kernel
theorem dX10_hang_19 : decode cX10_hang 19 = .ok (.ifCond .eq 5, 3) := by decide +kernel
theorem dX10_hang_22 : decode cX10_hang 22 = .ok (.iconst 0, 1) := by decide +kernel
theorem dX10_hang_23 : decode cX10_hang 23 = .ok (.ireturn, 1) := by decide +kernel
theorem dX10_hang_24 : decode cX10_hang 24 = .ok (.aload_n 0, 1) := by decide +kernel
theorem dX10_hang_25 : decode cX10_hang 25 = .ok (.getfield 26, 3) := by decide +kernel
theorem dX10_hang_28 : decode cX10_hang 28 = .ok (.iconst 1, 1) := by decide +kernel
theorem dX10_hang_29 : decode cX10_hang 29 = .ok (.putfield 86, 3) := by decide +kernel
theorem dX10_hang_32 : decode cX10_hang 32 = .ok (.iconst 1, 1) := by decide +kernel
theorem dX10_hang_33 : decode cX10_hang 33 = .ok (.ireturn, 1) := by decide +kernel
theorem dX10_force_0 : decode cX10_force 0 = .ok (.iload_n 1, 1) := by decide +kernel
theorem dX10_force_1 : decode cX10_force 1 = .ok (.invokestatic 90, 3) := by decide +kernel
theorem dX10_force_4 : decode cX10_force 4 = .ok (.ifCond .eq 22, 3) := by decide +kernel
theorem dX10_force_7 : decode cX10_force 7 = .ok (.iload_n 2, 1) := by decide +kernel
theorem dX10_force_8 : decode cX10_force 8 = .ok (.invokestatic 90, 3) := by decide +kernel
theorem dX10_force_11 : decode cX10_force 11 = .ok (.ifCond .eq 15, 3) := by decide +kernel
theorem dX10_force_14 : decode cX10_force 14 = .ok (.aload_n 0, 1) := by decide +kernel
theorem dX10_force_15 : decode cX10_force 15 = .ok (.getfield 12, 3) := by decide +kernel
theorem dX10_force_18 : decode cX10_force 18 = .ok (.getfield 65, 3) := by decide +kernel
theorem dX10_force_21 : decode cX10_force 21 = .ok (.iload_n 1, 1) := by decide +kernel
theorem dX10_force_22 : decode cX10_force 22 = .ok (.baload, 1) := by decide +kernel
theorem dX10_force_23 : decode cX10_force 23 = .ok (.ifCond .ne 5, 3) := by decide +kernel
theorem dX10_force_26 : decode cX10_force 26 = .ok (.iconst (-1), 1) := by decide +kernel
theorem dX10_force_27 : decode cX10_force 27 = .ok (.ireturn, 1) := by decide +kernel
theorem dX10_force_28 : decode cX10_force 28 = .ok (.aload_n 0, 1) := by decide +kernel
theorem dX10_force_29 : decode cX10_force 29 = .ok (.getfield 12, 3) := by decide +kernel
theorem dX10_force_32 : decode cX10_force 32 = .ok (.iload_n 1, 1) := by decide +kernel
theorem dX10_force_33 : decode cX10_force 33 = .ok (.iload_n 2, 1) := by decide +kernel
theorem dX10_force_34 : decode cX10_force 34 = .ok (.iconst 0, 1) := by decide +kernel
theorem dX10_force_35 : decode cX10_force 35 = .ok (.iconst 0, 1) := by decide +kernel
theorem dX10_force_36 : decode cX10_force 36 = .ok (.iconst 0, 1) := by decide +kernel
theorem dX10_force_37 : decode cX10_force 37 = .ok (.invokevirtual 72, 3) := by decide +kernel
theorem dX10_force_40 : decode cX10_force 40 = .ok (.ireturn, 1) := by decide +kernel
theorem dX10_user_0 : decode cX10_user 0 = .ok (.iload_n 1, 1) := by decide +kernel
theorem dX10_user_1 : decode cX10_user 1 = .ok (.invokestatic 61, 3) := by decide +kernel
theorem dX10_user_4 : decode cX10_user 4 = .ok (.ifCond .ne 13, 3) := by decide +kernel
theorem dX10_user_7 : decode cX10_user 7 = .ok (.new 93, 3) := by decide +kernel
theorem dX10_user_10 : decode cX10_user 10 = .ok (.dup, 1) := by decide +kernel
theorem dX10_user_11 : decode cX10_user 11 = .ok (.ldc 95, 2) := by decide +kernel
theorem dX10_user_13 : decode cX10_user 13 = .ok (.invokespecial 97, 3) := by decide +kernel
theorem dX10_user_16 : decode cX10_user 16 = .ok (.athrow, 1) := by decide +kernel
theorem dX10_user_17 : decode cX10_user 17 = .ok (.iload_n 2, 1) := by decide +kernel
theorem dX10_user_18 : decode cX10_user 18 = .ok (.tableswitch 142 0 6 #[42, 75, 92, 102, 112, 121, 130], 42) := by decide +kernel
theorem dX10_user_60 : decode cX10_user 60 = .ok (.aload_n 0, 1) := by decide +kernel
theorem dX10_user_61 : decode cX10_user 61 = .ok (.getfield 12, 3) := by decide +kernel
theorem dX10_user_64 : decode cX10_user 64 = .ok (.getfield 65, 3) := by decide +kernel
theorem dX10_user_67 : decode cX10_user 67 = .ok (.iload_n 1, 1) := by decide +kernel
theorem dX10_user_68 : decode cX10_user 68 = .ok (.baload, 1) := by decide +kernel
theorem dX10_user_69 : decode cX10_user 69 = .ok (.ifCond .eq 7, 3) := by decide +kernel
theorem dX10_user_72 : decode cX10_user 72 = .ok (.iconst 1, 1) := by decide +kernel
theorem dX10_user_73 : decode cX10_user 73 = .ok (.goto 19, 3) := by decide +kernel
theorem dX10_user_76 : decode cX10_user 76 = .ok (.aload_n 0, 1) := by decide +kernel
theorem dX10_user_77 : decode cX10_user 77 = .ok (.getfield 40, 3) := by decide +kernel
theorem dX10_user_80 : decode cX10_user 80 = .ok (.iload_n 1, 1) := by decide +kernel
theorem dX10_user_81 : decode cX10_user 81 = .ok (.invokevirtual 100, 3) := by decide +kernel
theorem dX10_user_84 : decode cX10_user 84 = .ok (.ifCond .eq 7, 3) := by decide +kernel
theorem dX10_user_87 : decode cX10_user 87 = .ok (.iconst 2, 1) := by decide +kernel
theorem dX10_user_88 : decode cX10_user 88 = .ok (.goto 4, 3) := by decide +kernel
theorem dX10_user_91 : decode cX10_user 91 = .ok (.iconst 0, 1) := by decide +kernel
theorem dX10_user_92 : decode cX10_user 92 = .ok (.ireturn, 1) := by decide +kernel
theorem dX10_user_93 : decode cX10_user 93 = .ok (.aload_n 0, 1) := by decide +kernel
theorem dX10_user_94 : decode cX10_user 94 = .ok (.getfield 47, 3) := by decide +kernel
theorem dX10_user_97 : decode cX10_user 97 = .ok (.iload_n 1, 1) := by decide +kernel
theorem dX10_user_98 : decode cX10_user 98 = .ok (.invokevirtual 69, 3) := by decide +kernel
theorem dX10_user_101 : decode cX10_user 101 = .ok (.ifCond .eq 7, 3) := by decide +kernel
theorem dX10_user_104 : decode cX10_user 104 = .ok (.iconst 1, 1) := by decide +kernel
theorem dX10_user_105 : decode cX10_user 105 = .ok (.goto 4, 3) := by decide +kernel
theorem dX10_user_108 : decode cX10_user 108 = .ok (.iconst 0, 1) := by decide +kernel
theorem dX10_user_109 : decode cX10_user 109 = .ok (.ireturn, 1) := by decide +kernel
theorem dX10_user_110 : decode cX10_user 110 = .ok (.aload_n 0, 1) := by decide +kernel
theorem dX10_user_111 : decode cX10_user 111 = .ok (.getfield 47, 3) := by decide +kernel
theorem dX10_user_114 : decode cX10_user 114 = .ok (.getfield 103, 3) := by decide +kernel
theorem dX10_user_117 : decode cX10_user 117 = .ok (.iload_n 1, 1) := by decide +kernel
theorem dX10_user_118 : decode cX10_user 118 = .ok (.iaload, 1) := by decide +kernel
theorem dX10_user_119 : decode cX10_user 119 = .ok (.ireturn, 1) := by decide +kernel
theorem dX10_user_120 : decode cX10_user 120 = .ok (.aload_n 0, 1) := by decide +kernel
theorem dX10_user_121 : decode cX10_user 121 = .ok (.getfield 47, 3) := by decide +kernel
theorem dX10_user_124 : decode cX10_user 124 = .ok (.getfield 107, 3) := by decide +kernel
theorem dX10_user_127 : decode cX10_user 127 = .ok (.iload_n 1, 1) := by decide +kernel
theorem dX10_user_128 : decode cX10_user 128 = .ok (.iaload, 1) := by decide +kernel
theorem dX10_user_129 : decode cX10_user 129 = .ok (.ireturn, 1) := by decide +kernel
theorem dX10_user_130 : decode cX10_user 130 = .ok (.aload_n 0, 1) := by decide +kernel
theorem dX10_user_131 : decode cX10_user 131 = .ok (.getfield 40, 3) := by decide +kernel
theorem dX10_user_134 : decode cX10_user 134 = .ok (.iload_n 1, 1) := by decide +kernel
theorem dX10_user_135 : decode cX10_user 135 = .ok (.invokevirtual 110, 3) := by decide +kernel
theorem dX10_user_138 : decode cX10_user 138 = .ok (.ireturn, 1) := by decide +kernel
theorem dX10_user_139 : decode cX10_user 139 = .ok (.aload_n 0, 1) := by decide +kernel
theorem dX10_user_140 : decode cX10_user 140 = .ok (.getfield 40, 3) := by decide +kernel
theorem dX10_user_143 : decode cX10_user 143 = .ok (.iload_n 1, 1) := by decide +kernel
theorem dX10_user_144 : decode cX10_user 144 = .ok (.invokevirtual 114, 3) := by decide +kernel
theorem dX10_user_147 : decode cX10_user 147 = .ok (.ireturn, 1) := by decide +kernel
theorem dX10_user_148 : decode cX10_user 148 = .ok (.aload_n 0, 1) := by decide +kernel
theorem dX10_user_149 : decode cX10_user 149 = .ok (.getfield 33, 3) := by decide +kernel
theorem dX10_user_152 : decode cX10_user 152 = .ok (.getfield 117, 3) := by decide +kernel
theorem dX10_user_155 : decode cX10_user 155 = .ok (.iload_n 1, 1) := by decide +kernel
theorem dX10_user_156 : decode cX10_user 156 = .ok (.invokevirtual 121, 3) := by decide +kernel
theorem dX10_user_159 : decode cX10_user 159 = .ok (.ireturn, 1) := by decide +kernel
theorem dX10_user_160 : decode cX10_user 160 = .ok (.new 93, 3) := by decide +kernel
theorem dX10_user_163 : decode cX10_user 163 = .ok (.dup, 1) := by decide +kernel
theorem dX10_user_164 : decode cX10_user 164 = .ok (.ldc 126, 2) := by decide +kernel
theorem dX10_user_166 : decode cX10_user 166 = .ok (.invokespecial 97, 3) := by decide +kernel
theorem dX10_user_169 : decode cX10_user 169 = .ok (.athrow, 1) := by decide +kernel
theorem dX10_descriptor_0 : decode cX10_descriptor 0 = .ok (.iload_n 3, 1) := by decide +kernel
theorem dX10_descriptor_1 : decode cX10_descriptor 1 = .ok (.lookupswitch 53 #[(0, 27), (1, 40)], 27) := by decide +kernel
theorem dX10_descriptor_28 : decode cX10_descriptor 28 = .ok (.aload_n 0, 1) := by decide +kernel
theorem dX10_descriptor_29 : decode cX10_descriptor 29 = .ok (.getfield 33, 3) := by decide +kernel
theorem dX10_descriptor_32 : decode cX10_descriptor 32 = .ok (.getfield 117, 3) := by decide +kernel
theorem dX10_descriptor_35 : decode cX10_descriptor 35 = .ok (.iload_n 1, 1) := by decide +kernel
theorem dX10_descriptor_36 : decode cX10_descriptor 36 = .ok (.iload_n 2, 1) := by decide +kernel
theorem dX10_descriptor_37 : decode cX10_descriptor 37 = .ok (.invokevirtual 128, 3) := by decide +kernel
theorem dX10_descriptor_40 : decode cX10_descriptor 40 = .ok (.ireturn, 1) := by decide +kernel
theorem dX10_descriptor_41 : decode cX10_descriptor 41 = .ok (.aload_n 0, 1) := by decide +kernel
theorem dX10_descriptor_42 : decode cX10_descriptor 42 = .ok (.getfield 33, 3) := by decide +kernel
theorem dX10_descriptor_45 : decode cX10_descriptor 45 = .ok (.getfield 117, 3) := by decide +kernel
theorem dX10_descriptor_48 : decode cX10_descriptor 48 = .ok (.iload_n 1, 1) := by decide +kernel
theorem dX10_descriptor_49 : decode cX10_descriptor 49 = .ok (.iload_n 2, 1) := by decide +kernel
theorem dX10_descriptor_50 : decode cX10_descriptor 50 = .ok (.invokevirtual 132, 3) := by decide +kernel
theorem dX10_descriptor_53 : decode cX10_descriptor 53 = .ok (.ireturn, 1) := by decide +kernel
theorem dX10_descriptor_54 : decode cX10_descriptor 54 = .ok (.iconst (-1), 1) := by decide +kernel
theorem dX10_descriptor_55 : decode cX10_descriptor 55 = .ok (.ireturn, 1) := by decide +kernel
theorem dX10_file_0 : decode cX10_file 0 = .ok (.iload_n 2, 1) := by decide +kernel
theorem dX10_file_1 : decode cX10_file 1 = .ok (.ifCond .ne 17, 3) := by decide +kernel
theorem dX10_file_4 : decode cX10_file 4 = .ok (.aload_n 0, 1) := by decide +kernel
theorem dX10_file_5 : decode cX10_file 5 = .ok (.getfield 33, 3) := by decide +kernel
theorem dX10_file_8 : decode cX10_file 8 = .ok (.getfield 135, 3) := by decide +kernel
theorem dX10_file_11 : decode cX10_file 11 = .ok (.iload_n 1, 1) := by decide +kernel
theorem dX10_file_12 : decode cX10_file 12 = .ok (.invokevirtual 139, 3) := by decide +kernel
theorem dX10_file_15 : decode cX10_file 15 = .ok (.goto 18, 3) := by decide +kernel
theorem dX10_file_18 : decode cX10_file 18 = .ok (.aload_n 0, 1) := by decide +kernel
theorem dX10_file_19 : decode cX10_file 19 = .ok (.getfield 33, 3) := by decide +kernel
theorem dX10_file_22 : decode cX10_file 22 = .ok (.getfield 135, 3) := by decide +kernel
theorem dX10_file_25 : decode cX10_file 25 = .ok (.iload_n 1, 1) := by decide +kernel
theorem dX10_file_26 : decode cX10_file 26 = .ok (.iload_n 2, 1) := by decide +kernel
theorem dX10_file_27 : decode cX10_file 27 = .ok (.i2l, 1) := by decide +kernel
theorem dX10_file_28 : decode cX10_file 28 = .ok (.lconst 1, 1) := by decide +kernel
theorem dX10_file_29 : decode cX10_file 29 = .ok (.lsub, 1) := by decide +kernel
theorem dX10_file_30 : decode cX10_file 30 = .ok (.invokevirtual 144, 3) := by decide +kernel
theorem dX10_file_33 : decode cX10_file 33 = .ok (.ireturn, 1) := by decide +kernel
theorem dX10_disk_0 : decode cX10_disk 0 = .ok (.iload_n 1, 1) := by decide +kernel
theorem dX10_disk_1 : decode cX10_disk 1 = .ok (.ifCond .lt 19, 3) := by decide +kernel
theorem dX10_disk_4 : decode cX10_disk 4 = .ok (.iload_n 1, 1) := by decide +kernel
theorem dX10_disk_5 : decode cX10_disk 5 = .ok (.bipush 24, 2) := by decide +kernel
theorem dX10_disk_7 : decode cX10_disk 7 = .ok (.if_icmp .ge 13, 3) := by decide +kernel
theorem dX10_disk_10 : decode cX10_disk 10 = .ok (.iload_n 2, 1) := by decide +kernel
theorem dX10_disk_11 : decode cX10_disk 11 = .ok (.ifCond .lt 9, 3) := by decide +kernel
theorem dX10_disk_14 : decode cX10_disk 14 = .ok (.iload_n 2, 1) := by decide +kernel
theorem dX10_disk_15 : decode cX10_disk 15 = .ok (.bipush 8, 2) := by decide +kernel
theorem dX10_disk_17 : decode cX10_disk 17 = .ok (.if_icmp .lt 13, 3) := by decide +kernel
theorem dX10_disk_20 : decode cX10_disk 20 = .ok (.new 93, 3) := by decide +kernel
theorem dX10_disk_23 : decode cX10_disk 23 = .ok (.dup, 1) := by decide +kernel
theorem dX10_disk_24 : decode cX10_disk 24 = .ok (.ldc 148, 2) := by decide +kernel
theorem dX10_disk_26 : decode cX10_disk 26 = .ok (.invokespecial 97, 3) := by decide +kernel
theorem dX10_disk_29 : decode cX10_disk 29 = .ok (.athrow, 1) := by decide +kernel
theorem dX10_disk_30 : decode cX10_disk 30 = .ok (.aload_n 0, 1) := by decide +kernel
theorem dX10_disk_31 : decode cX10_disk 31 = .ok (.getfield 26, 3) := by decide +kernel
theorem dX10_disk_34 : decode cX10_disk 34 = .ok (.getfield 150, 3) := by decide +kernel
theorem dX10_disk_37 : decode cX10_disk 37 = .ok (.iload_n 1, 1) := by decide +kernel
theorem dX10_disk_38 : decode cX10_disk 38 = .ok (.bipush 8, 2) := by decide +kernel
theorem dX10_disk_40 : decode cX10_disk 40 = .ok (.imul, 1) := by decide +kernel
theorem dX10_disk_41 : decode cX10_disk 41 = .ok (.iload_n 2, 1) := by decide +kernel
theorem dX10_disk_42 : decode cX10_disk 42 = .ok (.iadd, 1) := by decide +kernel
theorem dX10_disk_43 : decode cX10_disk 43 = .ok (.iaload, 1) := by decide +kernel
theorem dX10_disk_44 : decode cX10_disk 44 = .ok (.ireturn, 1) := by decide +kernel
theorem dX10_inbox_0 : decode cX10_inbox 0 = .ok (.iload_n 1, 1) := by decide +kernel
theorem dX10_inbox_1 : decode cX10_inbox 1 = .ok (.invokestatic 90, 3) := by decide +kernel
theorem dX10_inbox_4 : decode cX10_inbox 4 = .ok (.ifCond .eq 18, 3) := by decide +kernel
theorem dX10_inbox_7 : decode cX10_inbox 7 = .ok (.aload_n 0, 1) := by decide +kernel
theorem dX10_inbox_8 : decode cX10_inbox 8 = .ok (.getfield 12, 3) := by decide +kernel
theorem dX10_inbox_11 : decode cX10_inbox 11 = .ok (.getfield 153, 3) := by decide +kernel
theorem dX10_inbox_14 : decode cX10_inbox 14 = .ok (.iload_n 1, 1) := by decide +kernel
theorem dX10_inbox_15 : decode cX10_inbox 15 = .ok (.aaload, 1) := by decide +kernel
theorem dX10_inbox_16 : decode cX10_inbox 16 = .ok (.getfield 157, 3) := by decide +kernel
theorem dX10_inbox_19 : decode cX10_inbox 19 = .ok (.goto 4, 3) := by decide +kernel
theorem dX10_inbox_22 : decode cX10_inbox 22 = .ok (.iconst (-1), 1) := by decide +kernel
theorem dX10_inbox_23 : decode cX10_inbox 23 = .ok (.ireturn, 1) := by decide +kernel
theorem dX10_message_0 : decode cX10_message 0 = .ok (.iload_n 1, 1) := by decide +kernel
theorem dX10_message_1 : decode cX10_message 1 = .ok (.invokestatic 90, 3) := by decide +kernel
theorem dX10_message_4 : decode cX10_message 4 = .ok (.ifCond .eq 19, 3) := by decide +kernel
theorem dX10_message_7 : decode cX10_message 7 = .ok (.aload_n 0, 1) := by decide +kernel
theorem dX10_message_8 : decode cX10_message 8 = .ok (.getfield 12, 3) := by decide +kernel
theorem dX10_message_11 : decode cX10_message 11 = .ok (.getfield 153, 3) := by decide +kernel
theorem dX10_message_14 : decode cX10_message 14 = .ok (.iload_n 1, 1) := by decide +kernel
theorem dX10_message_15 : decode cX10_message 15 = .ok (.aaload, 1) := by decide +kernel
theorem dX10_message_16 : decode cX10_message 16 = .ok (.iload_n 2, 1) := by decide +kernel
theorem dX10_message_17 : decode cX10_message 17 = .ok (.invokevirtual 162, 3) := by decide +kernel
theorem dX10_message_20 : decode cX10_message 20 = .ok (.goto 4, 3) := by decide +kernel
theorem dX10_message_23 : decode cX10_message 23 = .ok (.aconst_null, 1) := by decide +kernel
theorem dX10_message_24 : decode cX10_message 24 = .ok (.astore 4, 2) := by decide +kernel
theorem dX10_message_26 : decode cX10_message 26 = .ok (.aload 4, 2) := by decide +kernel
theorem dX10_message_28 : decode cX10_message 28 = .ok (.ifnonnull 5, 3) := by decide +kernel
theorem dX10_message_31 : decode cX10_message 31 = .ok (.iconst (-1), 1) := by decide +kernel
theorem dX10_message_32 : decode cX10_message 32 = .ok (.ireturn, 1) := by decide +kernel
theorem dX10_message_33 : decode cX10_message 33 = .ok (.iload_n 3, 1) := by decide +kernel
theorem dX10_message_34 : decode cX10_message 34 = .ok (.tableswitch 64 0 4 #[34, 40, 46, 52, 58], 34) := by decide +kernel
theorem dX10_message_68 : decode cX10_message 68 = .ok (.aload 4, 2) := by decide +kernel
theorem dX10_message_70 : decode cX10_message 70 = .ok (.getfield 166, 3) := by decide +kernel
theorem dX10_message_73 : decode cX10_message 73 = .ok (.ireturn, 1) := by decide +kernel
theorem dX10_message_74 : decode cX10_message 74 = .ok (.aload 4, 2) := by decide +kernel
theorem dX10_message_76 : decode cX10_message 76 = .ok (.getfield 171, 3) := by decide +kernel
theorem dX10_message_79 : decode cX10_message 79 = .ok (.ireturn, 1) := by decide +kernel
theorem dX10_message_80 : decode cX10_message 80 = .ok (.aload 4, 2) := by decide +kernel
theorem dX10_message_82 : decode cX10_message 82 = .ok (.getfield 174, 3) := by decide +kernel
theorem dX10_message_85 : decode cX10_message 85 = .ok (.ireturn, 1) := by decide +kernel
theorem dX10_message_86 : decode cX10_message 86 = .ok (.aload 4, 2) := by decide +kernel
theorem dX10_message_88 : decode cX10_message 88 = .ok (.getfield 177, 3) := by decide +kernel
theorem dX10_message_91 : decode cX10_message 91 = .ok (.ireturn, 1) := by decide +kernel
theorem dX10_message_92 : decode cX10_message 92 = .ok (.aload 4, 2) := by decide +kernel
theorem dX10_message_94 : decode cX10_message 94 = .ok (.getfield 180, 3) := by decide +kernel
theorem dX10_message_97 : decode cX10_message 97 = .ok (.ireturn, 1) := by decide +kernel
theorem dX10_message_98 : decode cX10_message 98 = .ok (.iconst (-1), 1) := by decide +kernel
theorem dX10_message_99 : decode cX10_message 99 = .ok (.ireturn, 1) := by decide +kernel
theorem dX10_count_0 : decode cX10_count 0 = .ok (.iload_n 1, 1) := by decide +kernel
theorem dX10_count_1 : decode cX10_count 1 = .ok (.tableswitch 229 0 13 #[71, 76, 81, 89, 121, 129, 146, 162, 178, 183, 191, 202, 213, 221], 71) := by decide +kernel
theorem dX10_count_72 : decode cX10_count 72 = .ok (.aload_n 0, 1) := by decide +kernel
theorem dX10_count_73 : decode cX10_count 73 = .ok (.getfield 51, 3) := by decide +kernel
theorem dX10_count_76 : decode cX10_count 76 = .ok (.ireturn, 1) := by decide +kernel
theorem dX10_count_77 : decode cX10_count 77 = .ok (.aload_n 0, 1) := by decide +kernel
theorem dX10_count_78 : decode cX10_count 78 = .ok (.getfield 55, 3) := by decide +kernel
theorem dX10_count_81 : decode cX10_count 81 = .ok (.ireturn, 1) := by decide +kernel
theorem dX10_count_82 : decode cX10_count 82 = .ok (.aload_n 0, 1) := by decide +kernel
theorem dX10_count_83 : decode cX10_count 83 = .ok (.getfield 12, 3) := by decide +kernel
theorem dX10_count_86 : decode cX10_count 86 = .ok (.getfield 183, 3) := by decide +kernel
theorem dX10_count_89 : decode cX10_count 89 = .ok (.ireturn, 1) := by decide +kernel
theorem dX10_count_90 : decode cX10_count 90 = .ok (.aload_n 0, 1) := by decide +kernel
theorem dX10_count_91 : decode cX10_count 91 = .ok (.getfield 12, 3) := by decide +kernel
theorem dX10_count_94 : decode cX10_count 94 = .ok (.getfield 65, 3) := by decide +kernel
theorem dX10_count_97 : decode cX10_count 97 = .ok (.iconst 1, 1) := by decide +kernel
theorem dX10_count_98 : decode cX10_count 98 = .ok (.baload, 1) := by decide +kernel
theorem dX10_count_99 : decode cX10_count 99 = .ok (.ifCond .ne 7, 3) := by decide +kernel
theorem dX10_count_102 : decode cX10_count 102 = .ok (.iconst 0, 1) := by decide +kernel
theorem dX10_count_103 : decode cX10_count 103 = .ok (.goto 18, 3) := by decide +kernel
theorem dX10_count_106 : decode cX10_count 106 = .ok (.aload_n 0, 1) := by decide +kernel
theorem dX10_count_107 : decode cX10_count 107 = .ok (.getfield 26, 3) := by decide +kernel
theorem dX10_count_110 : decode cX10_count 110 = .ok (.getfield 86, 3) := by decide +kernel
theorem dX10_count_113 : decode cX10_count 113 = .ok (.ifCond .eq 7, 3) := by decide +kernel
theorem dX10_count_116 : decode cX10_count 116 = .ok (.iconst 2, 1) := by decide +kernel
theorem dX10_count_117 : decode cX10_count 117 = .ok (.goto 4, 3) := by decide +kernel
theorem dX10_count_120 : decode cX10_count 120 = .ok (.iconst 1, 1) := by decide +kernel
theorem dX10_count_121 : decode cX10_count 121 = .ok (.ireturn, 1) := by decide +kernel
theorem dX10_count_122 : decode cX10_count 122 = .ok (.aload_n 0, 1) := by decide +kernel
theorem dX10_count_123 : decode cX10_count 123 = .ok (.getfield 26, 3) := by decide +kernel
theorem dX10_count_126 : decode cX10_count 126 = .ok (.getfield 186, 3) := by decide +kernel
theorem dX10_count_129 : decode cX10_count 129 = .ok (.ireturn, 1) := by decide +kernel
theorem dX10_count_130 : decode cX10_count 130 = .ok (.aload_n 0, 1) := by decide +kernel
theorem dX10_count_131 : decode cX10_count 131 = .ok (.getfield 26, 3) := by decide +kernel
theorem dX10_count_134 : decode cX10_count 134 = .ok (.getfield 189, 3) := by decide +kernel
theorem dX10_count_137 : decode cX10_count 137 = .ok (.iconst (-1), 1) := by decide +kernel
theorem dX10_count_138 : decode cX10_count 138 = .ok (.if_icmp .ne 7, 3) := by decide +kernel
theorem dX10_count_141 : decode cX10_count 141 = .ok (.iconst 0, 1) := by decide +kernel
theorem dX10_count_142 : decode cX10_count 142 = .ok (.goto 4, 3) := by decide +kernel
theorem dX10_count_145 : decode cX10_count 145 = .ok (.iconst 1, 1) := by decide +kernel
theorem dX10_count_146 : decode cX10_count 146 = .ok (.ireturn, 1) := by decide +kernel
theorem dX10_count_147 : decode cX10_count 147 = .ok (.aload_n 0, 1) := by decide +kernel
theorem dX10_count_148 : decode cX10_count 148 = .ok (.getfield 33, 3) := by decide +kernel
theorem dX10_count_151 : decode cX10_count 151 = .ok (.getfield 192, 3) := by decide +kernel
theorem dX10_count_154 : decode cX10_count 154 = .ok (.ifCond .eq 7, 3) := by decide +kernel
theorem dX10_count_157 : decode cX10_count 157 = .ok (.iconst 1, 1) := by decide +kernel
theorem dX10_count_158 : decode cX10_count 158 = .ok (.goto 4, 3) := by decide +kernel
theorem dX10_count_161 : decode cX10_count 161 = .ok (.iconst 0, 1) := by decide +kernel
theorem dX10_count_162 : decode cX10_count 162 = .ok (.ireturn, 1) := by decide +kernel
theorem dX10_count_163 : decode cX10_count 163 = .ok (.aload_n 0, 1) := by decide +kernel
theorem dX10_count_164 : decode cX10_count 164 = .ok (.getfield 40, 3) := by decide +kernel
theorem dX10_count_167 : decode cX10_count 167 = .ok (.getfield 195, 3) := by decide +kernel
theorem dX10_count_170 : decode cX10_count 170 = .ok (.ifCond .eq 7, 3) := by decide +kernel
theorem dX10_count_173 : decode cX10_count 173 = .ok (.iconst 1, 1) := by decide +kernel
theorem dX10_count_174 : decode cX10_count 174 = .ok (.goto 4, 3) := by decide +kernel
theorem dX10_count_177 : decode cX10_count 177 = .ok (.iconst 0, 1) := by decide +kernel
theorem dX10_count_178 : decode cX10_count 178 = .ok (.ireturn, 1) := by decide +kernel
theorem dX10_count_179 : decode cX10_count 179 = .ok (.aload_n 0, 1) := by decide +kernel
theorem dX10_count_180 : decode cX10_count 180 = .ok (.getfield 58, 3) := by decide +kernel
theorem dX10_count_183 : decode cX10_count 183 = .ok (.ireturn, 1) := by decide +kernel
theorem dX10_count_184 : decode cX10_count 184 = .ok (.aload_n 0, 1) := by decide +kernel
theorem dX10_count_185 : decode cX10_count 185 = .ok (.getfield 12, 3) := by decide +kernel
theorem dX10_count_188 : decode cX10_count 188 = .ok (.getfield 196, 3) := by decide +kernel
theorem dX10_count_191 : decode cX10_count 191 = .ok (.ireturn, 1) := by decide +kernel
theorem dX10_count_192 : decode cX10_count 192 = .ok (.aload_n 0, 1) := by decide +kernel
theorem dX10_count_193 : decode cX10_count 193 = .ok (.getfield 33, 3) := by decide +kernel
theorem dX10_count_196 : decode cX10_count 196 = .ok (.getfield 135, 3) := by decide +kernel
theorem dX10_count_199 : decode cX10_count 199 = .ok (.getfield 199, 3) := by decide +kernel
theorem dX10_count_202 : decode cX10_count 202 = .ok (.ireturn, 1) := by decide +kernel
theorem dX10_count_203 : decode cX10_count 203 = .ok (.aload_n 0, 1) := by decide +kernel
theorem dX10_count_204 : decode cX10_count 204 = .ok (.getfield 33, 3) := by decide +kernel
theorem dX10_count_207 : decode cX10_count 207 = .ok (.getfield 135, 3) := by decide +kernel
theorem dX10_count_210 : decode cX10_count 210 = .ok (.getfield 201, 3) := by decide +kernel
theorem dX10_count_213 : decode cX10_count 213 = .ok (.ireturn, 1) := by decide +kernel
theorem dX10_count_214 : decode cX10_count 214 = .ok (.aload_n 0, 1) := by decide +kernel
theorem dX10_count_215 : decode cX10_count 215 = .ok (.getfield 12, 3) := by decide +kernel
theorem dX10_count_218 : decode cX10_count 218 = .ok (.invokevirtual 204, 3) := by decide +kernel
theorem dX10_count_221 : decode cX10_count 221 = .ok (.ireturn, 1) := by decide +kernel
theorem dX10_count_222 : decode cX10_count 222 = .ok (.aload_n 0, 1) := by decide +kernel
theorem dX10_count_223 : decode cX10_count 223 = .ok (.getfield 12, 3) := by decide +kernel
theorem dX10_count_226 : decode cX10_count 226 = .ok (.getfield 208, 3) := by decide +kernel
theorem dX10_count_229 : decode cX10_count 229 = .ok (.ireturn, 1) := by decide +kernel
theorem dX10_count_230 : decode cX10_count 230 = .ok (.iconst (-1), 1) := by decide +kernel
theorem dX10_count_231 : decode cX10_count 231 = .ok (.ireturn, 1) := by decide +kernel
theorem dX10_giveTurn_0 : decode cX10_giveTurn 0 = .ok (.aload_n 0, 1) := by decide +kernel
theorem dX10_giveTurn_1 : decode cX10_giveTurn 1 = .ok (.getfield 55, 3) := by decide +kernel
theorem dX10_giveTurn_4 : decode cX10_giveTurn 4 = .ok (.istore_n 1, 1) := by decide +kernel
theorem dX10_giveTurn_5 : decode cX10_giveTurn 5 = .ok (.aload_n 0, 1) := by decide +kernel
theorem dX10_giveTurn_6 : decode cX10_giveTurn 6 = .ok (.iload_n 1, 1) := by decide +kernel
theorem dX10_giveTurn_7 : decode cX10_giveTurn 7 = .ok (.iconst 1, 1) := by decide +kernel
theorem dX10_giveTurn_8 : decode cX10_giveTurn 8 = .ok (.iadd, 1) := by decide +kernel
theorem dX10_giveTurn_9 : decode cX10_giveTurn 9 = .ok (.bipush 12, 2) := by decide +kernel
theorem dX10_giveTurn_11 : decode cX10_giveTurn 11 = .ok (.if_icmp .ge 9, 3) := by decide +kernel
theorem dX10_giveTurn_14 : decode cX10_giveTurn 14 = .ok (.iload_n 1, 1) := by decide +kernel
theorem dX10_giveTurn_15 : decode cX10_giveTurn 15 = .ok (.iconst 1, 1) := by decide +kernel
theorem dX10_giveTurn_16 : decode cX10_giveTurn 16 = .ok (.iadd, 1) := by decide +kernel
theorem dX10_giveTurn_17 : decode cX10_giveTurn 17 = .ok (.goto 4, 3) := by decide +kernel
theorem dX10_giveTurn_20 : decode cX10_giveTurn 20 = .ok (.iconst 0, 1) := by decide +kernel
theorem dX10_giveTurn_21 : decode cX10_giveTurn 21 = .ok (.putfield 55, 3) := by decide +kernel
theorem dX10_giveTurn_24 : decode cX10_giveTurn 24 = .ok (.aload_n 0, 1) := by decide +kernel
theorem dX10_giveTurn_25 : decode cX10_giveTurn 25 = .ok (.dup, 1) := by decide +kernel
theorem dX10_giveTurn_26 : decode cX10_giveTurn 26 = .ok (.getfield 51, 3) := by decide +kernel
theorem dX10_giveTurn_29 : decode cX10_giveTurn 29 = .ok (.iconst 1, 1) := by decide +kernel
theorem dX10_giveTurn_30 : decode cX10_giveTurn 30 = .ok (.iadd, 1) := by decide +kernel
theorem dX10_giveTurn_31 : decode cX10_giveTurn 31 = .ok (.putfield 51, 3) := by decide +kernel
theorem dX10_giveTurn_34 : decode cX10_giveTurn 34 = .ok (.iload_n 1, 1) := by decide +kernel
theorem dX10_giveTurn_35 : decode cX10_giveTurn 35 = .ok (.ifCond .ne 16, 3) := by decide +kernel
theorem dX10_giveTurn_38 : decode cX10_giveTurn 38 = .ok (.aload_n 0, 1) := by decide +kernel
theorem dX10_giveTurn_39 : decode cX10_giveTurn 39 = .ok (.getfield 19, 3) := by decide +kernel
theorem dX10_giveTurn_42 : decode cX10_giveTurn 42 = .ok (.dup, 1) := by decide +kernel
theorem dX10_giveTurn_43 : decode cX10_giveTurn 43 = .ok (.getfield 211, 3) := by decide +kernel
theorem dX10_giveTurn_46 : decode cX10_giveTurn 46 = .ok (.iconst 1, 1) := by decide +kernel
theorem dX10_giveTurn_47 : decode cX10_giveTurn 47 = .ok (.iadd, 1) := by decide +kernel
theorem dX10_giveTurn_48 : decode cX10_giveTurn 48 = .ok (.putfield 211, 3) := by decide +kernel
theorem dX10_giveTurn_51 : decode cX10_giveTurn 51 = .ok (.aload_n 0, 1) := by decide +kernel
theorem dX10_giveTurn_52 : decode cX10_giveTurn 52 = .ok (.getfield 12, 3) := by decide +kernel
theorem dX10_giveTurn_55 : decode cX10_giveTurn 55 = .ok (.getfield 65, 3) := by decide +kernel
theorem dX10_giveTurn_58 : decode cX10_giveTurn 58 = .ok (.iload_n 1, 1) := by decide +kernel
theorem dX10_giveTurn_59 : decode cX10_giveTurn 59 = .ok (.baload, 1) := by decide +kernel
theorem dX10_giveTurn_60 : decode cX10_giveTurn 60 = .ok (.ifCond .eq 14, 3) := by decide +kernel
theorem dX10_giveTurn_63 : decode cX10_giveTurn 63 = .ok (.aload_n 0, 1) := by decide +kernel
theorem dX10_giveTurn_64 : decode cX10_giveTurn 64 = .ok (.getfield 12, 3) := by decide +kernel
theorem dX10_giveTurn_67 : decode cX10_giveTurn 67 = .ok (.iload_n 1, 1) := by decide +kernel
theorem dX10_giveTurn_68 : decode cX10_giveTurn 68 = .ok (.invokevirtual 214, 3) := by decide +kernel
theorem dX10_giveTurn_71 : decode cX10_giveTurn 71 = .ok (.ifCond .eq 4, 3) := by decide +kernel
theorem dX10_giveTurn_74 : decode cX10_giveTurn 74 = .ok (.return_, 1) := by decide +kernel
theorem dX10_giveTurn_75 : decode cX10_giveTurn 75 = .ok (.iload_n 1, 1) := by decide +kernel
theorem dX10_giveTurn_76 : decode cX10_giveTurn 76 = .ok (.tableswitch 99 0 3 #[32, 53, 67, 81], 32) := by decide +kernel
theorem dX10_giveTurn_108 : decode cX10_giveTurn 108 = .ok (.aload_n 0, 1) := by decide +kernel
theorem dX10_giveTurn_109 : decode cX10_giveTurn 109 = .ok (.getfield 19, 3) := by decide +kernel
theorem dX10_giveTurn_112 : decode cX10_giveTurn 112 = .ok (.aload_n 0, 1) := by decide +kernel
theorem dX10_giveTurn_113 : decode cX10_giveTurn 113 = .ok (.getfield 12, 3) := by decide +kernel
theorem dX10_giveTurn_116 : decode cX10_giveTurn 116 = .ok (.invokevirtual 217, 3) := by decide +kernel
theorem dX10_giveTurn_119 : decode cX10_giveTurn 119 = .ok (.ifCond .eq 68, 3) := by decide +kernel
theorem dX10_giveTurn_122 : decode cX10_giveTurn 122 = .ok (.aload_n 0, 1) := by decide +kernel
theorem dX10_giveTurn_123 : decode cX10_giveTurn 123 = .ok (.invokevirtual 83, 3) := by decide +kernel
theorem dX10_giveTurn_126 : decode cX10_giveTurn 126 = .ok (.goto 61, 3) := by decide +kernel
theorem dX10_giveTurn_129 : decode cX10_giveTurn 129 = .ok (.aload_n 0, 1) := by decide +kernel
theorem dX10_giveTurn_130 : decode cX10_giveTurn 130 = .ok (.getfield 26, 3) := by decide +kernel
theorem dX10_giveTurn_133 : decode cX10_giveTurn 133 = .ok (.aload_n 0, 1) := by decide +kernel
theorem dX10_giveTurn_134 : decode cX10_giveTurn 134 = .ok (.getfield 12, 3) := by decide +kernel
theorem dX10_giveTurn_137 : decode cX10_giveTurn 137 = .ok (.invokevirtual 221, 3) := by decide +kernel
theorem dX10_giveTurn_140 : decode cX10_giveTurn 140 = .ok (.goto 47, 3) := by decide +kernel
theorem dX10_giveTurn_143 : decode cX10_giveTurn 143 = .ok (.aload_n 0, 1) := by decide +kernel
theorem dX10_giveTurn_144 : decode cX10_giveTurn 144 = .ok (.getfield 33, 3) := by decide +kernel
theorem dX10_giveTurn_147 : decode cX10_giveTurn 147 = .ok (.aload_n 0, 1) := by decide +kernel
theorem dX10_giveTurn_148 : decode cX10_giveTurn 148 = .ok (.getfield 12, 3) := by decide +kernel
theorem dX10_giveTurn_151 : decode cX10_giveTurn 151 = .ok (.invokevirtual 224, 3) := by decide +kernel
theorem dX10_giveTurn_154 : decode cX10_giveTurn 154 = .ok (.goto 33, 3) := by decide +kernel
theorem dX10_giveTurn_157 : decode cX10_giveTurn 157 = .ok (.aload_n 0, 1) := by decide +kernel
theorem dX10_giveTurn_158 : decode cX10_giveTurn 158 = .ok (.getfield 40, 3) := by decide +kernel
theorem dX10_giveTurn_161 : decode cX10_giveTurn 161 = .ok (.aload_n 0, 1) := by decide +kernel
theorem dX10_giveTurn_162 : decode cX10_giveTurn 162 = .ok (.getfield 12, 3) := by decide +kernel
theorem dX10_giveTurn_165 : decode cX10_giveTurn 165 = .ok (.aload_n 0, 1) := by decide +kernel
theorem dX10_giveTurn_166 : decode cX10_giveTurn 166 = .ok (.getfield 47, 3) := by decide +kernel
theorem dX10_giveTurn_169 : decode cX10_giveTurn 169 = .ok (.invokevirtual 225, 3) := by decide +kernel
theorem dX10_giveTurn_172 : decode cX10_giveTurn 172 = .ok (.goto 15, 3) := by decide +kernel
theorem dX10_giveTurn_175 : decode cX10_giveTurn 175 = .ok (.aload_n 0, 1) := by decide +kernel
theorem dX10_giveTurn_176 : decode cX10_giveTurn 176 = .ok (.getfield 47, 3) := by decide +kernel
theorem dX10_giveTurn_179 : decode cX10_giveTurn 179 = .ok (.aload_n 0, 1) := by decide +kernel
theorem dX10_giveTurn_180 : decode cX10_giveTurn 180 = .ok (.getfield 12, 3) := by decide +kernel
theorem dX10_giveTurn_183 : decode cX10_giveTurn 183 = .ok (.iload_n 1, 1) := by decide +kernel
theorem dX10_giveTurn_184 : decode cX10_giveTurn 184 = .ok (.invokevirtual 228, 3) := by decide +kernel
theorem dX10_giveTurn_187 : decode cX10_giveTurn 187 = .ok (.return_, 1) := by decide +kernel
theorem dX10_breakDriver_0 : decode cX10_breakDriver 0 = .ok (.aload_n 0, 1) := by decide +kernel
theorem dX10_breakDriver_1 : decode cX10_breakDriver 1 = .ok (.getfield 12, 3) := by decide +kernel
theorem dX10_breakDriver_4 : decode cX10_breakDriver 4 = .ok (.iconst 1, 1) := by decide +kernel
theorem dX10_breakDriver_5 : decode cX10_breakDriver 5 = .ok (.invokevirtual 231, 3) := by decide +kernel
theorem dX10_breakDriver_8 : decode cX10_breakDriver 8 = .ok (.aload_n 0, 1) := by decide +kernel
theorem dX10_breakDriver_9 : decode cX10_breakDriver 9 = .ok (.getfield 26, 3) := by decide +kernel
theorem dX10_breakDriver_12 : decode cX10_breakDriver 12 = .ok (.invokevirtual 235, 3) := by decide +kernel
theorem dX10_breakDriver_15 : decode cX10_breakDriver 15 = .ok (.aload_n 0, 1) := by decide +kernel
theorem dX10_breakDriver_16 : decode cX10_breakDriver 16 = .ok (.getfield 19, 3) := by decide +kernel
theorem dX10_breakDriver_19 : decode cX10_breakDriver 19 = .ok (.iconst 0, 1) := by decide +kernel
theorem dX10_breakDriver_20 : decode cX10_breakDriver 20 = .ok (.putfield 238, 3) := by decide +kernel
theorem dX10_breakDriver_23 : decode cX10_breakDriver 23 = .ok (.aload_n 0, 1) := by decide +kernel
theorem dX10_breakDriver_24 : decode cX10_breakDriver 24 = .ok (.dup, 1) := by decide +kernel
theorem dX10_breakDriver_25 : decode cX10_breakDriver 25 = .ok (.getfield 58, 3) := by decide +kernel
theorem dX10_breakDriver_28 : decode cX10_breakDriver 28 = .ok (.iconst 1, 1) := by decide +kernel
theorem dX10_breakDriver_29 : decode cX10_breakDriver 29 = .ok (.iadd, 1) := by decide +kernel
theorem dX10_breakDriver_30 : decode cX10_breakDriver 30 = .ok (.putfield 58, 3) := by decide +kernel
theorem dX10_breakDriver_33 : decode cX10_breakDriver 33 = .ok (.return_, 1) := by decide +kernel
theorem dX10_isPart_0 : decode cX10_isPart 0 = .ok (.iload_n 0, 1) := by decide +kernel
theorem dX10_isPart_1 : decode cX10_isPart 1 = .ok (.ifCond .lt 13, 3) := by decide +kernel
theorem dX10_isPart_4 : decode cX10_isPart 4 = .ok (.iload_n 0, 1) := by decide +kernel
theorem dX10_isPart_5 : decode cX10_isPart 5 = .ok (.bipush 12, 2) := by decide +kernel
theorem dX10_isPart_7 : decode cX10_isPart 7 = .ok (.if_icmp .ge 7, 3) := by decide +kernel
theorem dX10_isPart_10 : decode cX10_isPart 10 = .ok (.iconst 1, 1) := by decide +kernel
theorem dX10_isPart_11 : decode cX10_isPart 11 = .ok (.goto 4, 3) := by decide +kernel
theorem dX10_isPart_14 : decode cX10_isPart 14 = .ok (.iconst 0, 1) := by decide +kernel
theorem dX10_isPart_15 : decode cX10_isPart 15 = .ok (.ireturn, 1) := by decide +kernel
theorem dX10_isUser_0 : decode cX10_isUser 0 = .ok (.iload_n 0, 1) := by decide +kernel
theorem dX10_isUser_1 : decode cX10_isUser 1 = .ok (.iconst 4, 1) := by decide +kernel
theorem dX10_isUser_2 : decode cX10_isUser 2 = .ok (.if_icmp .lt 13, 3) := by decide +kernel
theorem dX10_isUser_5 : decode cX10_isUser 5 = .ok (.iload_n 0, 1) := by decide +kernel
theorem dX10_isUser_6 : decode cX10_isUser 6 = .ok (.bipush 12, 2) := by decide +kernel
theorem dX10_isUser_8 : decode cX10_isUser 8 = .ok (.if_icmp .ge 7, 3) := by decide +kernel
theorem dX10_isUser_11 : decode cX10_isUser 11 = .ok (.iconst 1, 1) := by decide +kernel
theorem dX10_isUser_12 : decode cX10_isUser 12 = .ok (.goto 4, 3) := by decide +kernel
theorem dX10_isUser_15 : decode cX10_isUser 15 = .ok (.iconst 0, 1) := by decide +kernel
theorem dX10_isUser_16 : decode cX10_isUser 16 = .ok (.ireturn, 1) := by decide +kernel
end
section
theorem dX11_thrown_0 : decode cX11_thrown 0 = .ok (.aload_n 0, 1) := by decide +kernel
theorem dX11_thrown_1 : decode cX11_thrown 1 = .ok (.getfield 1, 3) := by decide +kernel
theorem dX11_thrown_4 : decode cX11_thrown 4 = .ok (.ireturn, 1) := by decide +kernel
theorem dX11_drafts_0 : decode cX11_drafts 0 = .ok (.iconst 0, 1) := by decide +kernel
theorem dX11_drafts_1 : decode cX11_drafts 1 = .ok (.istore 4, 2) := by decide +kernel
theorem dX11_drafts_3 : decode cX11_drafts 3 = .ok (.iload 4, 2) := by decide +kernel
theorem dX11_drafts_5 : decode cX11_drafts 5 = .ok (.bipush 13, 2) := by decide +kernel
theorem dX11_drafts_7 : decode cX11_drafts 7 = .ok (.if_icmp .ge 17, 3) := by decide +kernel
theorem dX11_drafts_10 : decode cX11_drafts 10 = .ok (.aload_n 0, 1) := by decide +kernel
theorem dX11_drafts_11 : decode cX11_drafts 11 = .ok (.getfield 7, 3) := by decide +kernel
theorem dX11_drafts_14 : decode cX11_drafts 14 = .ok (.iload 4, 2) := by decide +kernel
theorem dX11_drafts_16 : decode cX11_drafts 16 = .ok (.iconst 0, 1) := by decide +kernel
theorem dX11_drafts_17 : decode cX11_drafts 17 = .ok (.iastore, 1) := by decide +kernel
theorem dX11_drafts_18 : decode cX11_drafts 18 = .ok (.iinc 4 1, 3) := by decide +kernel
theorem dX11_drafts_21 : decode cX11_drafts 21 = .ok (.goto (-18), 3) := by decide +kernel
theorem dX11_drafts_24 : decode cX11_drafts 24 = .ok (.aload_n 0, 1) := by decide +kernel
theorem dX11_drafts_25 : decode cX11_drafts 25 = .ok (.getfield 7, 3) := by decide +kernel
theorem dX11_drafts_28 : decode cX11_drafts 28 = .ok (.iconst 1, 1) := by decide +kernel
theorem dX11_drafts_29 : decode cX11_drafts 29 = .ok (.iload_n 1, 1) := by decide +kernel
theorem dX11_drafts_30 : decode cX11_drafts 30 = .ok (.iastore, 1) := by decide +kernel
theorem dX11_drafts_31 : decode cX11_drafts 31 = .ok (.aload_n 0, 1) := by decide +kernel
theorem dX11_drafts_32 : decode cX11_drafts 32 = .ok (.getfield 7, 3) := by decide +kernel
theorem dX11_drafts_35 : decode cX11_drafts 35 = .ok (.iconst 2, 1) := by decide +kernel
theorem dX11_drafts_36 : decode cX11_drafts 36 = .ok (.iload_n 2, 1) := by decide +kernel
theorem dX11_drafts_37 : decode cX11_drafts 37 = .ok (.iastore, 1) := by decide +kernel
theorem dX11_drafts_38 : decode cX11_drafts 38 = .ok (.aload_n 0, 1) := by decide +kernel
theorem dX11_drafts_39 : decode cX11_drafts 39 = .ok (.getfield 7, 3) := by decide +kernel
theorem dX11_drafts_42 : decode cX11_drafts 42 = .ok (.iconst 3, 1) := by decide +kernel
theorem dX11_drafts_43 : decode cX11_drafts 43 = .ok (.iload_n 3, 1) := by decide +kernel
theorem dX11_drafts_44 : decode cX11_drafts 44 = .ok (.iastore, 1) := by decide +kernel
theorem dX11_drafts_45 : decode cX11_drafts 45 = .ok (.return_, 1) := by decide +kernel
theorem dX11_isUser_0 : decode cX11_isUser 0 = .ok (.iload_n 0, 1) := by decide +kernel
theorem dX11_isUser_1 : decode cX11_isUser 1 = .ok (.iconst 4, 1) := by decide +kernel
theorem dX11_isUser_2 : decode cX11_isUser 2 = .ok (.if_icmp .lt 13, 3) := by decide +kernel
theorem dX11_isUser_5 : decode cX11_isUser 5 = .ok (.iload_n 0, 1) := by decide +kernel
theorem dX11_isUser_6 : decode cX11_isUser 6 = .ok (.bipush 12, 2) := by decide +kernel
theorem dX11_isUser_8 : decode cX11_isUser 8 = .ok (.if_icmp .ge 7, 3) := by decide +kernel
theorem dX11_isUser_11 : decode cX11_isUser 11 = .ok (.iconst 1, 1) := by decide +kernel
theorem dX11_isUser_12 : decode cX11_isUser 12 = .ok (.goto 4, 3) := by decide +kernel
theorem dX11_isUser_15 : decode cX11_isUser 15 = .ok (.iconst 0, 1) := by decide +kernel
theorem dX11_isUser_16 : decode cX11_isUser 16 = .ok (.ireturn, 1) := by decide +kernel
theorem dX11_isAllowed_0 : decode cX11_isAllowed 0 = .ok (.iload_n 0, 1) := by decide +kernel
theorem dX11_isAllowed_1 : decode cX11_isAllowed 1 = .ok (.tableswitch 103 0 3 #[31, 47, 62, 85], 31) := by decide +kernel
theorem dX11_isAllowed_32 : decode cX11_isAllowed 32 = .ok (.iload_n 1, 1) := by decide +kernel
theorem dX11_isAllowed_33 : decode cX11_isAllowed 33 = .ok (.iconst 1, 1) := by decide +kernel
theorem dX11_isAllowed_34 : decode cX11_isAllowed 34 = .ok (.if_icmp .eq 8, 3) := by decide +kernel
theorem dX11_isAllowed_37 : decode cX11_isAllowed 37 = .ok (.iload_n 1, 1) := by decide +kernel
theorem dX11_isAllowed_38 : decode cX11_isAllowed 38 = .ok (.iconst 2, 1) := by decide +kernel
theorem dX11_isAllowed_39 : decode cX11_isAllowed 39 = .ok (.if_icmp .ne 7, 3) := by decide +kernel
theorem dX11_isAllowed_42 : decode cX11_isAllowed 42 = .ok (.iconst 1, 1) := by decide +kernel
theorem dX11_isAllowed_43 : decode cX11_isAllowed 43 = .ok (.goto 4, 3) := by decide +kernel
theorem dX11_isAllowed_46 : decode cX11_isAllowed 46 = .ok (.iconst 0, 1) := by decide +kernel
theorem dX11_isAllowed_47 : decode cX11_isAllowed 47 = .ok (.ireturn, 1) := by decide +kernel
theorem dX11_isAllowed_48 : decode cX11_isAllowed 48 = .ok (.iload_n 1, 1) := by decide +kernel
theorem dX11_isAllowed_49 : decode cX11_isAllowed 49 = .ok (.ifCond .eq 8, 3) := by decide +kernel
theorem dX11_isAllowed_52 : decode cX11_isAllowed 52 = .ok (.iload_n 1, 1) := by decide +kernel
theorem dX11_isAllowed_53 : decode cX11_isAllowed 53 = .ok (.iconst 2, 1) := by decide +kernel
theorem dX11_isAllowed_54 : decode cX11_isAllowed 54 = .ok (.if_icmp .ne 7, 3) := by decide +kernel
theorem dX11_isAllowed_57 : decode cX11_isAllowed 57 = .ok (.iconst 1, 1) := by decide +kernel
theorem dX11_isAllowed_58 : decode cX11_isAllowed 58 = .ok (.goto 4, 3) := by decide +kernel
theorem dX11_isAllowed_61 : decode cX11_isAllowed 61 = .ok (.iconst 0, 1) := by decide +kernel
theorem dX11_isAllowed_62 : decode cX11_isAllowed 62 = .ok (.ireturn, 1) := by decide +kernel
theorem dX11_isAllowed_63 : decode cX11_isAllowed 63 = .ok (.iload_n 1, 1) := by decide +kernel
theorem dX11_isAllowed_64 : decode cX11_isAllowed 64 = .ok (.iconst 1, 1) := by decide +kernel
theorem dX11_isAllowed_65 : decode cX11_isAllowed 65 = .ok (.if_icmp .eq 15, 3) := by decide +kernel
theorem dX11_isAllowed_68 : decode cX11_isAllowed 68 = .ok (.iload_n 1, 1) := by decide +kernel
theorem dX11_isAllowed_69 : decode cX11_isAllowed 69 = .ok (.iconst 3, 1) := by decide +kernel
theorem dX11_isAllowed_70 : decode cX11_isAllowed 70 = .ok (.if_icmp .eq 10, 3) := by decide +kernel
theorem dX11_isAllowed_73 : decode cX11_isAllowed 73 = .ok (.iload_n 1, 1) := by decide +kernel
theorem dX11_isAllowed_74 : decode cX11_isAllowed 74 = .ok (.invokestatic 11, 3) := by decide +kernel
theorem dX11_isAllowed_77 : decode cX11_isAllowed 77 = .ok (.ifCond .eq 7, 3) := by decide +kernel
theorem dX11_isAllowed_80 : decode cX11_isAllowed 80 = .ok (.iconst 1, 1) := by decide +kernel
theorem dX11_isAllowed_81 : decode cX11_isAllowed 81 = .ok (.goto 4, 3) := by decide +kernel
theorem dX11_isAllowed_84 : decode cX11_isAllowed 84 = .ok (.iconst 0, 1) := by decide +kernel
theorem dX11_isAllowed_85 : decode cX11_isAllowed 85 = .ok (.ireturn, 1) := by decide +kernel
theorem dX11_isAllowed_86 : decode cX11_isAllowed 86 = .ok (.iload_n 1, 1) := by decide +kernel
theorem dX11_isAllowed_87 : decode cX11_isAllowed 87 = .ok (.iconst 2, 1) := by decide +kernel
theorem dX11_isAllowed_88 : decode cX11_isAllowed 88 = .ok (.if_icmp .eq 10, 3) := by decide +kernel
theorem dX11_isAllowed_91 : decode cX11_isAllowed 91 = .ok (.iload_n 1, 1) := by decide +kernel
theorem dX11_isAllowed_92 : decode cX11_isAllowed 92 = .ok (.invokestatic 11, 3) := by decide +kernel
theorem dX11_isAllowed_95 : decode cX11_isAllowed 95 = .ok (.ifCond .eq 7, 3) := by decide +kernel
theorem dX11_isAllowed_98 : decode cX11_isAllowed 98 = .ok (.iconst 1, 1) := by decide +kernel
theorem dX11_isAllowed_99 : decode cX11_isAllowed 99 = .ok (.goto 4, 3) := by decide +kernel
theorem dX11_isAllowed_102 : decode cX11_isAllowed 102 = .ok (.iconst 0, 1) := by decide +kernel
theorem dX11_isAllowed_103 : decode cX11_isAllowed 103 = .ok (.ireturn, 1) := by decide +kernel
theorem dX11_isAllowed_104 : decode cX11_isAllowed 104 = .ok (.iload_n 1, 1) := by decide +kernel
theorem dX11_isAllowed_105 : decode cX11_isAllowed 105 = .ok (.iconst 2, 1) := by decide +kernel
theorem dX11_isAllowed_106 : decode cX11_isAllowed 106 = .ok (.if_icmp .eq 8, 3) := by decide +kernel
theorem dX11_isAllowed_109 : decode cX11_isAllowed 109 = .ok (.iload_n 1, 1) := by decide +kernel
theorem dX11_isAllowed_110 : decode cX11_isAllowed 110 = .ok (.iconst 3, 1) := by decide +kernel
theorem dX11_isAllowed_111 : decode cX11_isAllowed 111 = .ok (.if_icmp .ne 7, 3) := by decide +kernel
theorem dX11_isAllowed_114 : decode cX11_isAllowed 114 = .ok (.iconst 1, 1) := by decide +kernel
theorem dX11_isAllowed_115 : decode cX11_isAllowed 115 = .ok (.goto 4, 3) := by decide +kernel
theorem dX11_isAllowed_118 : decode cX11_isAllowed 118 = .ok (.iconst 0, 1) := by decide +kernel
theorem dX11_isAllowed_119 : decode cX11_isAllowed 119 = .ok (.ireturn, 1) := by decide +kernel
theorem dX11_lives_0 : decode cX11_lives 0 = .ok (.iload_n 1, 1) := by decide +kernel
theorem dX11_lives_1 : decode cX11_lives 1 = .ok (.iconst 1, 1) := by decide +kernel
theorem dX11_lives_2 : decode cX11_lives 2 = .ok (.if_icmp .ne 10, 3) := by decide +kernel
theorem dX11_lives_5 : decode cX11_lives 5 = .ok (.aload_n 0, 1) := by decide +kernel
theorem dX11_lives_6 : decode cX11_lives 6 = .ok (.getfield 15, 3) := by decide +kernel
theorem dX11_lives_9 : decode cX11_lives 9 = .ok (.goto 25, 3) := by decide +kernel
theorem dX11_lives_12 : decode cX11_lives 12 = .ok (.iload_n 1, 1) := by decide +kernel
theorem dX11_lives_13 : decode cX11_lives 13 = .ok (.invokestatic 11, 3) := by decide +kernel
theorem dX11_lives_16 : decode cX11_lives 16 = .ok (.ifCond .eq 13, 3) := by decide +kernel
theorem dX11_lives_19 : decode cX11_lives 19 = .ok (.aload_n 0, 1) := by decide +kernel
theorem dX11_lives_20 : decode cX11_lives 20 = .ok (.getfield 19, 3) := by decide +kernel
theorem dX11_lives_23 : decode cX11_lives 23 = .ok (.iload_n 1, 1) := by decide +kernel
theorem dX11_lives_24 : decode cX11_lives 24 = .ok (.iaload, 1) := by decide +kernel
theorem dX11_lives_25 : decode cX11_lives 25 = .ok (.iconst 1, 1) := by decide +kernel
theorem dX11_lives_26 : decode cX11_lives 26 = .ok (.if_icmp .ne 7, 3) := by decide +kernel
theorem dX11_lives_29 : decode cX11_lives 29 = .ok (.iconst 1, 1) := by decide +kernel
theorem dX11_lives_30 : decode cX11_lives 30 = .ok (.goto 4, 3) := by decide +kernel
theorem dX11_lives_33 : decode cX11_lives 33 = .ok (.iconst 0, 1) := by decide +kernel
theorem dX11_lives_34 : decode cX11_lives 34 = .ok (.ireturn, 1) := by decide +kernel
theorem dX11_send_0 : decode cX11_send 0 = .ok (.iload_n 1, 1) := by decide +kernel
theorem dX11_send_1 : decode cX11_send 1 = .ok (.iload_n 2, 1) := by decide +kernel
theorem dX11_send_2 : decode cX11_send 2 = .ok (.invokestatic 22, 3) := by decide +kernel
theorem dX11_send_5 : decode cX11_send 5 = .ok (.ifCond .ne 15, 3) := by decide +kernel
theorem dX11_send_8 : decode cX11_send 8 = .ok (.aload_n 0, 1) := by decide +kernel
theorem dX11_send_9 : decode cX11_send 9 = .ok (.dup, 1) := by decide +kernel
theorem dX11_send_10 : decode cX11_send 10 = .ok (.getfield 26, 3) := by decide +kernel
theorem dX11_send_13 : decode cX11_send 13 = .ok (.iconst 1, 1) := by decide +kernel
theorem dX11_send_14 : decode cX11_send 14 = .ok (.iadd, 1) := by decide +kernel
theorem dX11_send_15 : decode cX11_send 15 = .ok (.putfield 26, 3) := by decide +kernel
theorem dX11_send_18 : decode cX11_send 18 = .ok (.iconst 1, 1) := by decide +kernel
theorem dX11_send_19 : decode cX11_send 19 = .ok (.ireturn, 1) := by decide +kernel
theorem dX11_send_20 : decode cX11_send 20 = .ok (.aload_n 0, 1) := by decide +kernel
theorem dX11_send_21 : decode cX11_send 21 = .ok (.iload_n 2, 1) := by decide +kernel
theorem dX11_send_22 : decode cX11_send 22 = .ok (.invokevirtual 29, 3) := by decide +kernel
theorem dX11_send_25 : decode cX11_send 25 = .ok (.ifCond .eq 28, 3) := by decide +kernel
theorem dX11_send_28 : decode cX11_send 28 = .ok (.iload_n 3, 1) := by decide +kernel
theorem dX11_send_29 : decode cX11_send 29 = .ok (.ifCond .eq 26, 3) := by decide +kernel
theorem dX11_send_32 : decode cX11_send 32 = .ok (.iload_n 1, 1) := by decide +kernel
theorem dX11_send_33 : decode cX11_send 33 = .ok (.iconst 2, 1) := by decide +kernel
theorem dX11_send_34 : decode cX11_send 34 = .ok (.if_icmp .ne 21, 3) := by decide +kernel
theorem dX11_send_37 : decode cX11_send 37 = .ok (.iload_n 2, 1) := by decide +kernel
theorem dX11_send_38 : decode cX11_send 38 = .ok (.iconst 1, 1) := by decide +kernel
theorem dX11_send_39 : decode cX11_send 39 = .ok (.if_icmp .ne 16, 3) := by decide +kernel
theorem dX11_send_42 : decode cX11_send 42 = .ok (.aload_n 0, 1) := by decide +kernel
theorem dX11_send_43 : decode cX11_send 43 = .ok (.getfield 32, 3) := by decide +kernel
theorem dX11_send_46 : decode cX11_send 46 = .ok (.aload_n 0, 1) := by decide +kernel
theorem dX11_send_47 : decode cX11_send 47 = .ok (.getfield 35, 3) := by decide +kernel
theorem dX11_send_50 : decode cX11_send 50 = .ok (.if_icmp .eq 5, 3) := by decide +kernel
theorem dX11_send_53 : decode cX11_send 53 = .ok (.iconst 2, 1) := by decide +kernel
theorem dX11_send_54 : decode cX11_send 54 = .ok (.ireturn, 1) := by decide +kernel
theorem dX11_send_55 : decode cX11_send 55 = .ok (.aload_n 0, 1) := by decide +kernel
theorem dX11_send_56 : decode cX11_send 56 = .ok (.getfield 38, 3) := by decide +kernel
theorem dX11_send_59 : decode cX11_send 59 = .ok (.iload_n 2, 1) := by decide +kernel
theorem dX11_send_60 : decode cX11_send 60 = .ok (.iaload, 1) := by decide +kernel
theorem dX11_send_61 : decode cX11_send 61 = .ok (.bipush 12, 2) := by decide +kernel
theorem dX11_send_63 : decode cX11_send 63 = .ok (.if_icmp .ne 5, 3) := by decide +kernel
theorem dX11_send_66 : decode cX11_send 66 = .ok (.iconst 3, 1) := by decide +kernel
theorem dX11_send_67 : decode cX11_send 67 = .ok (.ireturn, 1) := by decide +kernel
theorem dX11_send_68 : decode cX11_send 68 = .ok (.bipush 13, 2) := by decide +kernel
theorem dX11_send_70 : decode cX11_send 70 = .ok (.bipush 12, 2) := by decide +kernel
theorem dX11_send_72 : decode cX11_send 72 = .ok (.iload_n 2, 1) := by decide +kernel
theorem dX11_send_73 : decode cX11_send 73 = .ok (.imul, 1) := by decide +kernel
theorem dX11_send_74 : decode cX11_send 74 = .ok (.aload_n 0, 1) := by decide +kernel
theorem dX11_send_75 : decode cX11_send 75 = .ok (.getfield 38, 3) := by decide +kernel
theorem dX11_send_78 : decode cX11_send 78 = .ok (.iload_n 2, 1) := by decide +kernel
theorem dX11_send_79 : decode cX11_send 79 = .ok (.iaload, 1) := by decide +kernel
theorem dX11_send_80 : decode cX11_send 80 = .ok (.iadd, 1) := by decide +kernel
theorem dX11_send_81 : decode cX11_send 81 = .ok (.imul, 1) := by decide +kernel
theorem dX11_send_82 : decode cX11_send 82 = .ok (.istore 4, 2) := by decide +kernel
theorem dX11_send_84 : decode cX11_send 84 = .ok (.aload_n 0, 1) := by decide +kernel
theorem dX11_send_85 : decode cX11_send 85 = .ok (.getfield 7, 3) := by decide +kernel
theorem dX11_send_88 : decode cX11_send 88 = .ok (.iconst 0, 1) := by decide +kernel
theorem dX11_send_89 : decode cX11_send 89 = .ok (.iload_n 1, 1) := by decide +kernel
theorem dX11_send_90 : decode cX11_send 90 = .ok (.iastore, 1) := by decide +kernel
theorem dX11_send_91 : decode cX11_send 91 = .ok (.iconst 0, 1) := by decide +kernel
theorem dX11_send_92 : decode cX11_send 92 = .ok (.istore 5, 2) := by decide +kernel
theorem dX11_send_94 : decode cX11_send 94 = .ok (.iload 5, 2) := by decide +kernel
theorem dX11_send_96 : decode cX11_send 96 = .ok (.bipush 13, 2) := by decide +kernel
theorem dX11_send_98 : decode cX11_send 98 = .ok (.if_icmp .ge 26, 3) := by decide +kernel
theorem dX11_send_101 : decode cX11_send 101 = .ok (.aload_n 0, 1) := by decide +kernel
theorem dX11_send_102 : decode cX11_send 102 = .ok (.getfield 41, 3) := by decide +kernel
theorem dX11_send_105 : decode cX11_send 105 = .ok (.iload 4, 2) := by decide +kernel
theorem dX11_send_107 : decode cX11_send 107 = .ok (.iload 5, 2) := by decide +kernel
theorem dX11_send_109 : decode cX11_send 109 = .ok (.iadd, 1) := by decide +kernel
theorem dX11_send_110 : decode cX11_send 110 = .ok (.aload_n 0, 1) := by decide +kernel
theorem dX11_send_111 : decode cX11_send 111 = .ok (.getfield 7, 3) := by decide +kernel
theorem dX11_send_114 : decode cX11_send 114 = .ok (.iload 5, 2) := by decide +kernel
theorem dX11_send_116 : decode cX11_send 116 = .ok (.iaload, 1) := by decide +kernel
theorem dX11_send_117 : decode cX11_send 117 = .ok (.iastore, 1) := by decide +kernel
theorem dX11_send_118 : decode cX11_send 118 = .ok (.iinc 5 1, 3) := by decide +kernel
theorem dX11_send_121 : decode cX11_send 121 = .ok (.goto (-27), 3) := by decide +kernel
theorem dX11_send_124 : decode cX11_send 124 = .ok (.aload_n 0, 1) := by decide +kernel
theorem dX11_send_125 : decode cX11_send 125 = .ok (.getfield 38, 3) := by decide +kernel
theorem dX11_send_128 : decode cX11_send 128 = .ok (.iload_n 2, 1) := by decide +kernel
theorem dX11_send_129 : decode cX11_send 129 = .ok (.dup2, 1) := by decide +kernel
theorem dX11_send_130 : decode cX11_send 130 = .ok (.iaload, 1) := by decide +kernel
theorem dX11_send_131 : decode cX11_send 131 = .ok (.iconst 1, 1) := by decide +kernel
theorem dX11_send_132 : decode cX11_send 132 = .ok (.iadd, 1) := by decide +kernel
theorem dX11_send_133 : decode cX11_send 133 = .ok (.iastore, 1) := by decide +kernel
theorem dX11_send_134 : decode cX11_send 134 = .ok (.aload_n 0, 1) := by decide +kernel
theorem dX11_send_135 : decode cX11_send 135 = .ok (.dup, 1) := by decide +kernel
theorem dX11_send_136 : decode cX11_send 136 = .ok (.getfield 44, 3) := by decide +kernel
theorem dX11_send_139 : decode cX11_send 139 = .ok (.iconst 1, 1) := by decide +kernel
theorem dX11_send_140 : decode cX11_send 140 = .ok (.iadd, 1) := by decide +kernel
theorem dX11_send_141 : decode cX11_send 141 = .ok (.putfield 44, 3) := by decide +kernel
theorem dX11_send_144 : decode cX11_send 144 = .ok (.iconst 0, 1) := by decide +kernel
theorem dX11_send_145 : decode cX11_send 145 = .ok (.ireturn, 1) := by decide +kernel
theorem dX11_sends_0 : decode cX11_sends 0 = .ok (.aload_n 0, 1) := by decide +kernel
theorem dX11_sends_1 : decode cX11_sends 1 = .ok (.iload_n 1, 1) := by decide +kernel
theorem dX11_sends_2 : decode cX11_sends 2 = .ok (.iload_n 2, 1) := by decide +kernel
theorem dX11_sends_3 : decode cX11_sends 3 = .ok (.iconst 1, 1) := by decide +kernel
theorem dX11_sends_4 : decode cX11_sends 4 = .ok (.invokevirtual 47, 3) := by decide +kernel
theorem dX11_sends_7 : decode cX11_sends 7 = .ok (.iconst 3, 1) := by decide +kernel
theorem dX11_sends_8 : decode cX11_sends 8 = .ok (.if_icmp .ne 41, 3) := by decide +kernel
theorem dX11_sends_11 : decode cX11_sends 11 = .ok (.iconst 0, 1) := by decide +kernel
theorem dX11_sends_12 : decode cX11_sends 12 = .ok (.istore_n 3, 1) := by decide +kernel
theorem dX11_sends_13 : decode cX11_sends 13 = .ok (.iload_n 3, 1) := by decide +kernel
theorem dX11_sends_14 : decode cX11_sends 14 = .ok (.bipush 13, 2) := by decide +kernel
theorem dX11_sends_16 : decode cX11_sends 16 = .ok (.if_icmp .ge 26, 3) := by decide +kernel
theorem dX11_sends_19 : decode cX11_sends 19 = .ok (.aload_n 0, 1) := by decide +kernel
theorem dX11_sends_20 : decode cX11_sends 20 = .ok (.getfield 51, 3) := by decide +kernel
theorem dX11_sends_23 : decode cX11_sends 23 = .ok (.bipush 13, 2) := by decide +kernel
theorem dX11_sends_25 : decode cX11_sends 25 = .ok (.iload_n 1, 1) := by decide +kernel
theorem dX11_sends_26 : decode cX11_sends 26 = .ok (.imul, 1) := by decide +kernel
theorem dX11_sends_27 : decode cX11_sends 27 = .ok (.iload_n 3, 1) := by decide +kernel
theorem dX11_sends_28 : decode cX11_sends 28 = .ok (.iadd, 1) := by decide +kernel
theorem dX11_sends_29 : decode cX11_sends 29 = .ok (.aload_n 0, 1) := by decide +kernel
theorem dX11_sends_30 : decode cX11_sends 30 = .ok (.getfield 7, 3) := by decide +kernel
theorem dX11_sends_33 : decode cX11_sends 33 = .ok (.iload_n 3, 1) := by decide +kernel
theorem dX11_sends_34 : decode cX11_sends 34 = .ok (.iaload, 1) := by decide +kernel
theorem dX11_sends_35 : decode cX11_sends 35 = .ok (.iastore, 1) := by decide +kernel
theorem dX11_sends_36 : decode cX11_sends 36 = .ok (.iinc 3 1, 3) := by decide +kernel
theorem dX11_sends_39 : decode cX11_sends 39 = .ok (.goto (-26), 3) := by decide +kernel
theorem dX11_sends_42 : decode cX11_sends 42 = .ok (.aload_n 0, 1) := by decide +kernel
theorem dX11_sends_43 : decode cX11_sends 43 = .ok (.getfield 54, 3) := by decide +kernel
theorem dX11_sends_46 : decode cX11_sends 46 = .ok (.iload_n 1, 1) := by decide +kernel
theorem dX11_sends_47 : decode cX11_sends 47 = .ok (.iload_n 2, 1) := by decide +kernel
theorem dX11_sends_48 : decode cX11_sends 48 = .ok (.iastore, 1) := by decide +kernel
theorem dX11_sends_49 : decode cX11_sends 49 = .ok (.return_, 1) := by decide +kernel
theorem dX11_sendsAgain_0 : decode cX11_sendsAgain 0 = .ok (.aload_n 0, 1) := by decide +kernel
theorem dX11_sendsAgain_1 : decode cX11_sendsAgain 1 = .ok (.getfield 54, 3) := by decide +kernel
theorem dX11_sendsAgain_4 : decode cX11_sendsAgain 4 = .ok (.iload_n 1, 1) := by decide +kernel
theorem dX11_sendsAgain_5 : decode cX11_sendsAgain 5 = .ok (.iaload, 1) := by decide +kernel
theorem dX11_sendsAgain_6 : decode cX11_sendsAgain 6 = .ok (.ifCond .ge 5, 3) := by decide +kernel
theorem dX11_sendsAgain_9 : decode cX11_sendsAgain 9 = .ok (.iconst 0, 1) := by decide +kernel
theorem dX11_sendsAgain_10 : decode cX11_sendsAgain 10 = .ok (.ireturn, 1) := by decide +kernel
theorem dX11_sendsAgain_11 : decode cX11_sendsAgain 11 = .ok (.iconst 0, 1) := by decide +kernel
theorem dX11_sendsAgain_12 : decode cX11_sendsAgain 12 = .ok (.istore_n 2, 1) := by decide +kernel
theorem dX11_sendsAgain_13 : decode cX11_sendsAgain 13 = .ok (.iload_n 2, 1) := by decide +kernel
theorem dX11_sendsAgain_14 : decode cX11_sendsAgain 14 = .ok (.bipush 13, 2) := by decide +kernel
theorem dX11_sendsAgain_16 : decode cX11_sendsAgain 16 = .ok (.if_icmp .ge 26, 3) := by decide +kernel
theorem dX11_sendsAgain_19 : decode cX11_sendsAgain 19 = .ok (.aload_n 0, 1) := by decide +kernel
theorem dX11_sendsAgain_20 : decode cX11_sendsAgain 20 = .ok (.getfield 7, 3) := by decide +kernel
theorem dX11_sendsAgain_23 : decode cX11_sendsAgain 23 = .ok (.iload_n 2, 1) := by decide +kernel
theorem dX11_sendsAgain_24 : decode cX11_sendsAgain 24 = .ok (.aload_n 0, 1) := by decide +kernel
theorem dX11_sendsAgain_25 : decode cX11_sendsAgain 25 = .ok (.getfield 51, 3) := by decide +kernel
theorem dX11_sendsAgain_28 : decode cX11_sendsAgain 28 = .ok (.bipush 13, 2) := by decide +kernel
theorem dX11_sendsAgain_30 : decode cX11_sendsAgain 30 = .ok (.iload_n 1, 1) := by decide +kernel
theorem dX11_sendsAgain_31 : decode cX11_sendsAgain 31 = .ok (.imul, 1) := by decide +kernel
theorem dX11_sendsAgain_32 : decode cX11_sendsAgain 32 = .ok (.iload_n 2, 1) := by decide +kernel
theorem dX11_sendsAgain_33 : decode cX11_sendsAgain 33 = .ok (.iadd, 1) := by decide +kernel
theorem dX11_sendsAgain_34 : decode cX11_sendsAgain 34 = .ok (.iaload, 1) := by decide +kernel
theorem dX11_sendsAgain_35 : decode cX11_sendsAgain 35 = .ok (.iastore, 1) := by decide +kernel
theorem dX11_sendsAgain_36 : decode cX11_sendsAgain 36 = .ok (.iinc 2 1, 3) := by decide +kernel
theorem dX11_sendsAgain_39 : decode cX11_sendsAgain 39 = .ok (.goto (-26), 3) := by decide +kernel
theorem dX11_sendsAgain_42 : decode cX11_sendsAgain 42 = .ok (.aload_n 0, 1) := by decide +kernel
theorem dX11_sendsAgain_43 : decode cX11_sendsAgain 43 = .ok (.getfield 54, 3) := by decide +kernel
theorem dX11_sendsAgain_46 : decode cX11_sendsAgain 46 = .ok (.iload_n 1, 1) := by decide +kernel
theorem dX11_sendsAgain_47 : decode cX11_sendsAgain 47 = .ok (.iaload, 1) := by decide +kernel
theorem dX11_sendsAgain_48 : decode cX11_sendsAgain 48 = .ok (.istore_n 2, 1) := by decide +kernel
theorem dX11_sendsAgain_49 : decode cX11_sendsAgain 49 = .ok (.aload_n 0, 1) := by decide +kernel
theorem dX11_sendsAgain_50 : decode cX11_sendsAgain 50 = .ok (.getfield 54, 3) := by decide +kernel
theorem dX11_sendsAgain_53 : decode cX11_sendsAgain 53 = .ok (.iload_n 1, 1) := by decide +kernel
theorem dX11_sendsAgain_54 : decode cX11_sendsAgain 54 = .ok (.iconst (-1), 1) := by decide +kernel
theorem dX11_sendsAgain_55 : decode cX11_sendsAgain 55 = .ok (.iastore, 1) := by decide +kernel
theorem dX11_sendsAgain_56 : decode cX11_sendsAgain 56 = .ok (.aload_n 0, 1) := by decide +kernel
theorem dX11_sendsAgain_57 : decode cX11_sendsAgain 57 = .ok (.iload_n 1, 1) := by decide +kernel
theorem dX11_sendsAgain_58 : decode cX11_sendsAgain 58 = .ok (.iload_n 2, 1) := by decide +kernel
theorem dX11_sendsAgain_59 : decode cX11_sendsAgain 59 = .ok (.invokevirtual 57, 3) := by decide +kernel
theorem dX11_sendsAgain_62 : decode cX11_sendsAgain 62 = .ok (.iconst 1, 1) := by decide +kernel
theorem dX11_sendsAgain_63 : decode cX11_sendsAgain 63 = .ok (.ireturn, 1) := by decide +kernel
theorem dX11_takeOut_0 : decode cX11_takeOut 0 = .ok (.bipush 13, 2) := by decide +kernel
theorem dX11_takeOut_2 : decode cX11_takeOut 2 = .ok (.bipush 12, 2) := by decide +kernel
theorem dX11_takeOut_4 : decode cX11_takeOut 4 = .ok (.iload_n 1, 1) := by decide +kernel
theorem dX11_takeOut_5 : decode cX11_takeOut 5 = .ok (.imul, 1) := by decide +kernel
theorem dX11_takeOut_6 : decode cX11_takeOut 6 = .ok (.iload_n 2, 1) := by decide +kernel
theorem dX11_takeOut_7 : decode cX11_takeOut 7 = .ok (.iadd, 1) := by decide +kernel
theorem dX11_takeOut_8 : decode cX11_takeOut 8 = .ok (.imul, 1) := by decide +kernel
theorem dX11_takeOut_9 : decode cX11_takeOut 9 = .ok (.istore_n 3, 1) := by decide +kernel
theorem dX11_takeOut_10 : decode cX11_takeOut 10 = .ok (.iconst 0, 1) := by decide +kernel
theorem dX11_takeOut_11 : decode cX11_takeOut 11 = .ok (.istore 4, 2) := by decide +kernel
theorem dX11_takeOut_13 : decode cX11_takeOut 13 = .ok (.iload 4, 2) := by decide +kernel
theorem dX11_takeOut_15 : decode cX11_takeOut 15 = .ok (.bipush 13, 2) := by decide +kernel
theorem dX11_takeOut_17 : decode cX11_takeOut 17 = .ok (.if_icmp .ge 25, 3) := by decide +kernel
theorem dX11_takeOut_20 : decode cX11_takeOut 20 = .ok (.aload_n 0, 1) := by decide +kernel
theorem dX11_takeOut_21 : decode cX11_takeOut 21 = .ok (.getfield 61, 3) := by decide +kernel
theorem dX11_takeOut_24 : decode cX11_takeOut 24 = .ok (.iload 4, 2) := by decide +kernel
theorem dX11_takeOut_26 : decode cX11_takeOut 26 = .ok (.aload_n 0, 1) := by decide +kernel
theorem dX11_takeOut_27 : decode cX11_takeOut 27 = .ok (.getfield 41, 3) := by decide +kernel
theorem dX11_takeOut_30 : decode cX11_takeOut 30 = .ok (.iload_n 3, 1) := by decide +kernel
theorem dX11_takeOut_31 : decode cX11_takeOut 31 = .ok (.iload 4, 2) := by decide +kernel
theorem dX11_takeOut_33 : decode cX11_takeOut 33 = .ok (.iadd, 1) := by decide +kernel
theorem dX11_takeOut_34 : decode cX11_takeOut 34 = .ok (.iaload, 1) := by decide +kernel
theorem dX11_takeOut_35 : decode cX11_takeOut 35 = .ok (.iastore, 1) := by decide +kernel
theorem dX11_takeOut_36 : decode cX11_takeOut 36 = .ok (.iinc 4 1, 3) := by decide +kernel
theorem dX11_takeOut_39 : decode cX11_takeOut 39 = .ok (.goto (-26), 3) := by decide +kernel
theorem dX11_takeOut_42 : decode cX11_takeOut 42 = .ok (.aload_n 0, 1) := by decide +kernel
theorem dX11_takeOut_43 : decode cX11_takeOut 43 = .ok (.iload_n 1, 1) := by decide +kernel
theorem dX11_takeOut_44 : decode cX11_takeOut 44 = .ok (.iload_n 2, 1) := by decide +kernel
theorem dX11_takeOut_45 : decode cX11_takeOut 45 = .ok (.invokevirtual 64, 3) := by decide +kernel
theorem dX11_takeOut_48 : decode cX11_takeOut 48 = .ok (.return_, 1) := by decide +kernel
theorem dX11_drop_0 : decode cX11_drop 0 = .ok (.aload_n 0, 1) := by decide +kernel
theorem dX11_drop_1 : decode cX11_drop 1 = .ok (.getfield 38, 3) := by decide +kernel
theorem dX11_drop_4 : decode cX11_drop 4 = .ok (.iload_n 1, 1) := by decide +kernel
theorem dX11_drop_5 : decode cX11_drop 5 = .ok (.dup2, 1) := by decide +kernel
theorem dX11_drop_6 : decode cX11_drop 6 = .ok (.iaload, 1) := by decide +kernel
theorem dX11_drop_7 : decode cX11_drop 7 = .ok (.iconst 1, 1) := by decide +kernel
theorem dX11_drop_8 : decode cX11_drop 8 = .ok (.isub, 1) := by decide +kernel
theorem dX11_drop_9 : decode cX11_drop 9 = .ok (.iastore, 1) := by decide +kernel
theorem dX11_drop_10 : decode cX11_drop 10 = .ok (.bipush 13, 2) := by decide +kernel
theorem dX11_drop_12 : decode cX11_drop 12 = .ok (.bipush 12, 2) := by decide +kernel
theorem dX11_drop_14 : decode cX11_drop 14 = .ok (.iload_n 1, 1) := by decide +kernel
theorem dX11_drop_15 : decode cX11_drop 15 = .ok (.imul, 1) := by decide +kernel
theorem dX11_drop_16 : decode cX11_drop 16 = .ok (.iload_n 2, 1) := by decide +kernel
theorem dX11_drop_17 : decode cX11_drop 17 = .ok (.iadd, 1) := by decide +kernel
theorem dX11_drop_18 : decode cX11_drop 18 = .ok (.imul, 1) := by decide +kernel
theorem dX11_drop_19 : decode cX11_drop 19 = .ok (.istore_n 3, 1) := by decide +kernel
theorem dX11_drop_20 : decode cX11_drop 20 = .ok (.iload_n 3, 1) := by decide +kernel
theorem dX11_drop_21 : decode cX11_drop 21 = .ok (.bipush 13, 2) := by decide +kernel
theorem dX11_drop_23 : decode cX11_drop 23 = .ok (.bipush 12, 2) := by decide +kernel
theorem dX11_drop_25 : decode cX11_drop 25 = .ok (.iload_n 1, 1) := by decide +kernel
theorem dX11_drop_26 : decode cX11_drop 26 = .ok (.imul, 1) := by decide +kernel
theorem dX11_drop_27 : decode cX11_drop 27 = .ok (.aload_n 0, 1) := by decide +kernel
theorem dX11_drop_28 : decode cX11_drop 28 = .ok (.getfield 38, 3) := by decide +kernel
theorem dX11_drop_31 : decode cX11_drop 31 = .ok (.iload_n 1, 1) := by decide +kernel
theorem dX11_drop_32 : decode cX11_drop 32 = .ok (.iaload, 1) := by decide +kernel
theorem dX11_drop_33 : decode cX11_drop 33 = .ok (.iadd, 1) := by decide +kernel
theorem dX11_drop_34 : decode cX11_drop 34 = .ok (.imul, 1) := by decide +kernel
theorem dX11_drop_35 : decode cX11_drop 35 = .ok (.if_icmp .ge 24, 3) := by decide +kernel
theorem dX11_drop_38 : decode cX11_drop 38 = .ok (.aload_n 0, 1) := by decide +kernel
theorem dX11_drop_39 : decode cX11_drop 39 = .ok (.getfield 41, 3) := by decide +kernel
theorem dX11_drop_42 : decode cX11_drop 42 = .ok (.iload_n 3, 1) := by decide +kernel
theorem dX11_drop_43 : decode cX11_drop 43 = .ok (.aload_n 0, 1) := by decide +kernel
theorem dX11_drop_44 : decode cX11_drop 44 = .ok (.getfield 41, 3) := by decide +kernel
theorem dX11_drop_47 : decode cX11_drop 47 = .ok (.iload_n 3, 1) := by decide +kernel
theorem dX11_drop_48 : decode cX11_drop 48 = .ok (.bipush 13, 2) := by decide +kernel
theorem dX11_drop_50 : decode cX11_drop 50 = .ok (.iadd, 1) := by decide +kernel
theorem dX11_drop_51 : decode cX11_drop 51 = .ok (.iaload, 1) := by decide +kernel
theorem dX11_drop_52 : decode cX11_drop 52 = .ok (.iastore, 1) := by decide +kernel
theorem dX11_drop_53 : decode cX11_drop 53 = .ok (.iinc 3 1, 3) := by decide +kernel
theorem dX11_drop_56 : decode cX11_drop 56 = .ok (.goto (-36), 3) := by decide +kernel
theorem dX11_drop_59 : decode cX11_drop 59 = .ok (.return_, 1) := by decide +kernel
theorem dX11_field_0 : decode cX11_field 0 = .ok (.aload_n 0, 1) := by decide +kernel
theorem dX11_field_1 : decode cX11_field 1 = .ok (.getfield 41, 3) := by decide +kernel
theorem dX11_field_4 : decode cX11_field 4 = .ok (.bipush 13, 2) := by decide +kernel
theorem dX11_field_6 : decode cX11_field 6 = .ok (.bipush 12, 2) := by decide +kernel
theorem dX11_field_8 : decode cX11_field 8 = .ok (.iload_n 1, 1) := by decide +kernel
theorem dX11_field_9 : decode cX11_field 9 = .ok (.imul, 1) := by decide +kernel
theorem dX11_field_10 : decode cX11_field 10 = .ok (.iload_n 2, 1) := by decide +kernel
theorem dX11_field_11 : decode cX11_field 11 = .ok (.iadd, 1) := by decide +kernel
theorem dX11_field_12 : decode cX11_field 12 = .ok (.imul, 1) := by decide +kernel
theorem dX11_field_13 : decode cX11_field 13 = .ok (.iload_n 3, 1) := by decide +kernel
theorem dX11_field_14 : decode cX11_field 14 = .ok (.iadd, 1) := by decide +kernel
theorem dX11_field_15 : decode cX11_field 15 = .ok (.iaload, 1) := by decide +kernel
theorem dX11_field_16 : decode cX11_field 16 = .ok (.ireturn, 1) := by decide +kernel
theorem dX11_init_0 : decode cX11_init 0 = .ok (.aload_n 0, 1) := by decide +kernel
theorem dX11_init_1 : decode cX11_init 1 = .ok (.invokespecial 67, 3) := by decide +kernel
theorem dX11_init_4 : decode cX11_init 4 = .ok (.aload_n 0, 1) := by decide +kernel
theorem dX11_init_5 : decode cX11_init 5 = .ok (.sipush 1872, 3) := by decide +kernel
theorem dX11_init_8 : decode cX11_init 8 = .ok (.newarray .int, 2) := by decide +kernel
theorem dX11_init_10 : decode cX11_init 10 = .ok (.putfield 41, 3) := by decide +kernel
theorem dX11_init_13 : decode cX11_init 13 = .ok (.aload_n 0, 1) := by decide +kernel
theorem dX11_init_14 : decode cX11_init 14 = .ok (.bipush 12, 2) := by decide +kernel
theorem dX11_init_16 : decode cX11_init 16 = .ok (.newarray .int, 2) := by decide +kernel
theorem dX11_init_18 : decode cX11_init 18 = .ok (.putfield 38, 3) := by decide +kernel
theorem dX11_init_21 : decode cX11_init 21 = .ok (.aload_n 0, 1) := by decide +kernel
theorem dX11_init_22 : decode cX11_init 22 = .ok (.bipush 13, 2) := by decide +kernel
theorem dX11_init_24 : decode cX11_init 24 = .ok (.newarray .int, 2) := by decide +kernel
theorem dX11_init_26 : decode cX11_init 26 = .ok (.putfield 7, 3) := by decide +kernel
theorem dX11_init_29 : decode cX11_init 29 = .ok (.aload_n 0, 1) := by decide +kernel
theorem dX11_init_30 : decode cX11_init 30 = .ok (.sipush 156, 3) := by decide +kernel
theorem dX11_init_33 : decode cX11_init 33 = .ok (.newarray .int, 2) := by decide +kernel
theorem dX11_init_35 : decode cX11_init 35 = .ok (.putfield 51, 3) := by decide +kernel
theorem dX11_init_38 : decode cX11_init 38 = .ok (.aload_n 0, 1) := by decide +kernel
theorem dX11_init_39 : decode cX11_init 39 = .ok (.bipush 12, 2) := by decide +kernel
theorem dX11_init_41 : decode cX11_init 41 = .ok (.newarray .int, 2) := by decide +kernel
theorem dX11_init_43 : decode cX11_init 43 = .ok (.putfield 54, 3) := by decide +kernel
theorem dX11_init_46 : decode cX11_init 46 = .ok (.aload_n 0, 1) := by decide +kernel
theorem dX11_init_47 : decode cX11_init 47 = .ok (.bipush 13, 2) := by decide +kernel
theorem dX11_init_49 : decode cX11_init 49 = .ok (.newarray .int, 2) := by decide +kernel
theorem dX11_init_51 : decode cX11_init 51 = .ok (.putfield 61, 3) := by decide +kernel
theorem dX11_init_54 : decode cX11_init 54 = .ok (.aload_n 0, 1) := by decide +kernel
theorem dX11_init_55 : decode cX11_init 55 = .ok (.bipush 12, 2) := by decide +kernel
theorem dX11_init_57 : decode cX11_init 57 = .ok (.newarray .int, 2) := by decide +kernel
theorem dX11_init_59 : decode cX11_init 59 = .ok (.putfield 19, 3) := by decide +kernel
theorem dX11_init_62 : decode cX11_init 62 = .ok (.aload_n 0, 1) := by decide +kernel
theorem dX11_init_63 : decode cX11_init 63 = .ok (.bipush 12, 2) := by decide +kernel
theorem dX11_init_65 : decode cX11_init 65 = .ok (.newarray .boolean, 2) := by decide +kernel
theorem dX11_init_67 : decode cX11_init 67 = .ok (.putfield 73, 3) := by decide +kernel
theorem dX11_init_70 : decode cX11_init 70 = .ok (.aload_n 0, 1) := by decide +kernel
theorem dX11_init_71 : decode cX11_init 71 = .ok (.bipush 12, 2) := by decide +kernel
theorem dX11_init_73 : decode cX11_init 73 = .ok (.newarray .int, 2) := by decide +kernel
theorem dX11_init_75 : decode cX11_init 75 = .ok (.putfield 77, 3) := by decide +kernel
theorem dX11_init_78 : decode cX11_init 78 = .ok (.aload_n 0, 1) := by decide +kernel
theorem dX11_init_79 : decode cX11_init 79 = .ok (.bipush 12, 2) := by decide +kernel
theorem dX11_init_81 : decode cX11_init 81 = .ok (.newarray .int, 2) := by decide +kernel
theorem dX11_init_83 : decode cX11_init 83 = .ok (.putfield 80, 3) := by decide +kernel
theorem dX11_init_86 : decode cX11_init 86 = .ok (.aload_n 0, 1) := by decide +kernel
theorem dX11_init_87 : decode cX11_init 87 = .ok (.bipush 12, 2) := by decide +kernel
theorem dX11_init_89 : decode cX11_init 89 = .ok (.newarray .int, 2) := by decide +kernel
theorem dX11_init_91 : decode cX11_init 91 = .ok (.putfield 83, 3) := by decide +kernel
theorem dX11_init_94 : decode cX11_init 94 = .ok (.aload_n 0, 1) := by decide +kernel
theorem dX11_init_95 : decode cX11_init 95 = .ok (.bipush 12, 2) := by decide +kernel
theorem dX11_init_97 : decode cX11_init 97 = .ok (.newarray .int, 2) := by decide +kernel
theorem dX11_init_99 : decode cX11_init 99 = .ok (.putfield 86, 3) := by decide +kernel
theorem dX11_init_102 : decode cX11_init 102 = .ok (.aload_n 0, 1) := by decide +kernel
theorem dX11_init_103 : decode cX11_init 103 = .ok (.bipush 12, 2) := by decide +kernel
theorem dX11_init_105 : decode cX11_init 105 = .ok (.newarray .boolean, 2) := by decide +kernel
theorem dX11_init_107 : decode cX11_init 107 = .ok (.putfield 89, 3) := by decide +kernel
theorem dX11_init_110 : decode cX11_init 110 = .ok (.aload_n 0, 1) := by decide +kernel
theorem dX11_init_111 : decode cX11_init 111 = .ok (.bipush 48, 2) := by decide +kernel
theorem dX11_init_113 : decode cX11_init 113 = .ok (.newarray .int, 2) := by decide +kernel
theorem dX11_init_115 : decode cX11_init 115 = .ok (.putfield 92, 3) := by decide +kernel
theorem dX11_init_118 : decode cX11_init 118 = .ok (.aload_n 0, 1) := by decide +kernel
theorem dX11_init_119 : decode cX11_init 119 = .ok (.bipush 48, 2) := by decide +kernel
theorem dX11_init_121 : decode cX11_init 121 = .ok (.newarray .int, 2) := by decide +kernel
theorem dX11_init_123 : decode cX11_init 123 = .ok (.putfield 95, 3) := by decide +kernel
theorem dX11_init_126 : decode cX11_init 126 = .ok (.aload_n 0, 1) := by decide +kernel
theorem dX11_init_127 : decode cX11_init 127 = .ok (.bipush 16, 2) := by decide +kernel
theorem dX11_init_129 : decode cX11_init 129 = .ok (.newarray .boolean, 2) := by decide +kernel
theorem dX11_init_131 : decode cX11_init 131 = .ok (.putfield 98, 3) := by decide +kernel
theorem dX11_init_134 : decode cX11_init 134 = .ok (.aload_n 0, 1) := by decide +kernel
theorem dX11_init_135 : decode cX11_init 135 = .ok (.bipush 16, 2) := by decide +kernel
theorem dX11_init_137 : decode cX11_init 137 = .ok (.newarray .int, 2) := by decide +kernel
theorem dX11_init_139 : decode cX11_init 139 = .ok (.putfield 101, 3) := by decide +kernel
theorem dX11_init_142 : decode cX11_init 142 = .ok (.aload_n 0, 1) := by decide +kernel
theorem dX11_init_143 : decode cX11_init 143 = .ok (.bipush 64, 2) := by decide +kernel
theorem dX11_init_145 : decode cX11_init 145 = .ok (.newarray .int, 2) := by decide +kernel
theorem dX11_init_147 : decode cX11_init 147 = .ok (.putfield 104, 3) := by decide +kernel
theorem dX11_init_150 : decode cX11_init 150 = .ok (.aload_n 0, 1) := by decide +kernel
theorem dX11_init_151 : decode cX11_init 151 = .ok (.bipush 24, 2) := by decide +kernel
theorem dX11_init_153 : decode cX11_init 153 = .ok (.newarray .boolean, 2) := by decide +kernel
theorem dX11_init_155 : decode cX11_init 155 = .ok (.putfield 107, 3) := by decide +kernel
theorem dX11_init_158 : decode cX11_init 158 = .ok (.aload_n 0, 1) := by decide +kernel
theorem dX11_init_159 : decode cX11_init 159 = .ok (.sipush 192, 3) := by decide +kernel
theorem dX11_init_162 : decode cX11_init 162 = .ok (.newarray .int, 2) := by decide +kernel
theorem dX11_init_164 : decode cX11_init 164 = .ok (.putfield 110, 3) := by decide +kernel
theorem dX11_init_167 : decode cX11_init 167 = .ok (.aload_n 0, 1) := by decide +kernel
theorem dX11_init_168 : decode cX11_init 168 = .ok (.iconst 1, 1) := by decide +kernel
theorem dX11_init_169 : decode cX11_init 169 = .ok (.putfield 15, 3) := by decide +kernel
theorem dX11_init_172 : decode cX11_init 172 = .ok (.aload_n 0, 1) := by decide +kernel
theorem dX11_init_173 : decode cX11_init 173 = .ok (.iconst 1, 1) := by decide +kernel
theorem dX11_init_174 : decode cX11_init 174 = .ok (.putfield 35, 3) := by decide +kernel
theorem dX11_init_177 : decode cX11_init 177 = .ok (.aload_n 0, 1) := by decide +kernel
theorem dX11_init_178 : decode cX11_init 178 = .ok (.bipush 8, 2) := by decide +kernel
theorem dX11_init_180 : decode cX11_init 180 = .ok (.newarray .int, 2) := by decide +kernel
theorem dX11_init_182 : decode cX11_init 182 = .ok (.putfield 113, 3) := by decide +kernel
theorem dX11_init_185 : decode cX11_init 185 = .ok (.aload_n 0, 1) := by decide +kernel
theorem dX11_init_186 : decode cX11_init 186 = .ok (.iconst 1, 1) := by decide +kernel
theorem dX11_init_187 : decode cX11_init 187 = .ok (.putfield 32, 3) := by decide +kernel
theorem dX11_init_190 : decode cX11_init 190 = .ok (.aload_n 0, 1) := by decide +kernel
theorem dX11_init_191 : decode cX11_init 191 = .ok (.bipush 8, 2) := by decide +kernel
theorem dX11_init_193 : decode cX11_init 193 = .ok (.newarray .int, 2) := by decide +kernel
theorem dX11_init_195 : decode cX11_init 195 = .ok (.putfield 116, 3) := by decide +kernel
theorem dX11_init_198 : decode cX11_init 198 = .ok (.iconst 0, 1) := by decide +kernel
theorem dX11_init_199 : decode cX11_init 199 = .ok (.istore_n 1, 1) := by decide +kernel
theorem dX11_init_200 : decode cX11_init 200 = .ok (.iload_n 1, 1) := by decide +kernel
theorem dX11_init_201 : decode cX11_init 201 = .ok (.bipush 12, 2) := by decide +kernel
theorem dX11_init_203 : decode cX11_init 203 = .ok (.if_icmp .ge 23, 3) := by decide +kernel
theorem dX11_init_206 : decode cX11_init 206 = .ok (.aload_n 0, 1) := by decide +kernel
theorem dX11_init_207 : decode cX11_init 207 = .ok (.getfield 54, 3) := by decide +kernel
theorem dX11_init_210 : decode cX11_init 210 = .ok (.iload_n 1, 1) := by decide +kernel
theorem dX11_init_211 : decode cX11_init 211 = .ok (.iconst (-1), 1) := by decide +kernel
theorem dX11_init_212 : decode cX11_init 212 = .ok (.iastore, 1) := by decide +kernel
theorem dX11_init_213 : decode cX11_init 213 = .ok (.aload_n 0, 1) := by decide +kernel
theorem dX11_init_214 : decode cX11_init 214 = .ok (.getfield 83, 3) := by decide +kernel
theorem dX11_init_217 : decode cX11_init 217 = .ok (.iload_n 1, 1) := by decide +kernel
theorem dX11_init_218 : decode cX11_init 218 = .ok (.iconst (-1), 1) := by decide +kernel
theorem dX11_init_219 : decode cX11_init 219 = .ok (.iastore, 1) := by decide +kernel
theorem dX11_init_220 : decode cX11_init 220 = .ok (.iinc 1 1, 3) := by decide +kernel
theorem dX11_init_223 : decode cX11_init 223 = .ok (.goto (-23), 3) := by decide +kernel
theorem dX11_init_226 : decode cX11_init 226 = .ok (.iconst 0, 1) := by decide +kernel
theorem dX11_init_227 : decode cX11_init 227 = .ok (.istore_n 1, 1) := by decide +kernel
theorem dX11_init_228 : decode cX11_init 228 = .ok (.iload_n 1, 1) := by decide +kernel
theorem dX11_init_229 : decode cX11_init 229 = .ok (.bipush 48, 2) := by decide +kernel
theorem dX11_init_231 : decode cX11_init 231 = .ok (.if_icmp .ge 16, 3) := by decide +kernel
theorem dX11_init_234 : decode cX11_init 234 = .ok (.aload_n 0, 1) := by decide +kernel
theorem dX11_init_235 : decode cX11_init 235 = .ok (.getfield 92, 3) := by decide +kernel
theorem dX11_init_238 : decode cX11_init 238 = .ok (.iload_n 1, 1) := by decide +kernel
theorem dX11_init_239 : decode cX11_init 239 = .ok (.iconst (-1), 1) := by decide +kernel
theorem dX11_init_240 : decode cX11_init 240 = .ok (.iastore, 1) := by decide +kernel
theorem dX11_init_241 : decode cX11_init 241 = .ok (.iinc 1 1, 3) := by decide +kernel
theorem dX11_init_244 : decode cX11_init 244 = .ok (.goto (-16), 3) := by decide +kernel
theorem dX11_init_247 : decode cX11_init 247 = .ok (.iconst 0, 1) := by decide +kernel
theorem dX11_init_248 : decode cX11_init 248 = .ok (.istore_n 1, 1) := by decide +kernel
theorem dX11_init_249 : decode cX11_init 249 = .ok (.iload_n 1, 1) := by decide +kernel
theorem dX11_init_250 : decode cX11_init 250 = .ok (.bipush 64, 2) := by decide +kernel
theorem dX11_init_252 : decode cX11_init 252 = .ok (.if_icmp .ge 16, 3) := by decide +kernel
theorem dX11_init_255 : decode cX11_init 255 = .ok (.aload_n 0, 1) := by decide +kernel
theorem dX11_init_256 : decode cX11_init 256 = .ok (.getfield 104, 3) := by decide +kernel
theorem dX11_init_259 : decode cX11_init 259 = .ok (.iload_n 1, 1) := by decide +kernel
theorem dX11_init_260 : decode cX11_init 260 = .ok (.iconst (-1), 1) := by decide +kernel
theorem dX11_init_261 : decode cX11_init 261 = .ok (.iastore, 1) := by decide +kernel
theorem dX11_init_262 : decode cX11_init 262 = .ok (.iinc 1 1, 3) := by decide +kernel
theorem dX11_init_265 : decode cX11_init 265 = .ok (.goto (-16), 3) := by decide +kernel
theorem dX11_init_268 : decode cX11_init 268 = .ok (.aload_n 0, 1) := by decide +kernel
theorem dX11_init_269 : decode cX11_init 269 = .ok (.getfield 19, 3) := by decide +kernel
theorem dX11_init_272 : decode cX11_init 272 = .ok (.iconst 4, 1) := by decide +kernel
theorem dX11_init_273 : decode cX11_init 273 = .ok (.iconst 1, 1) := by decide +kernel
theorem dX11_init_274 : decode cX11_init 274 = .ok (.iastore, 1) := by decide +kernel
theorem dX11_init_275 : decode cX11_init 275 = .ok (.return_, 1) := by decide +kernel
theorem dX11_crashesNow_0 : decode cX11_crashesNow 0 = .ok (.aload_n 0, 1) := by decide +kernel
theorem dX11_crashesNow_1 : decode cX11_crashesNow 1 = .ok (.iconst 0, 1) := by decide +kernel
theorem dX11_crashesNow_2 : decode cX11_crashesNow 2 = .ok (.putfield 15, 3) := by decide +kernel
theorem dX11_crashesNow_5 : decode cX11_crashesNow 5 = .ok (.aload_n 0, 1) := by decide +kernel
theorem dX11_crashesNow_6 : decode cX11_crashesNow 6 = .ok (.iconst 0, 1) := by decide +kernel
theorem dX11_crashesNow_7 : decode cX11_crashesNow 7 = .ok (.putfield 119, 3) := by decide +kernel
theorem dX11_crashesNow_10 : decode cX11_crashesNow 10 = .ok (.aload_n 0, 1) := by decide +kernel
theorem dX11_crashesNow_11 : decode cX11_crashesNow 11 = .ok (.iconst 0, 1) := by decide +kernel
theorem dX11_crashesNow_12 : decode cX11_crashesNow 12 = .ok (.putfield 122, 3) := by decide +kernel
theorem dX11_crashesNow_15 : decode cX11_crashesNow 15 = .ok (.aload_n 0, 1) := by decide +kernel
theorem dX11_crashesNow_16 : decode cX11_crashesNow 16 = .ok (.getfield 38, 3) := by decide +kernel
theorem dX11_crashesNow_19 : decode cX11_crashesNow 19 = .ok (.iconst 1, 1) := by decide +kernel
theorem dX11_crashesNow_20 : decode cX11_crashesNow 20 = .ok (.iconst 0, 1) := by decide +kernel
theorem dX11_crashesNow_21 : decode cX11_crashesNow 21 = .ok (.iastore, 1) := by decide +kernel
theorem dX11_crashesNow_22 : decode cX11_crashesNow 22 = .ok (.aload_n 0, 1) := by decide +kernel
theorem dX11_crashesNow_23 : decode cX11_crashesNow 23 = .ok (.iconst 0, 1) := by decide +kernel
theorem dX11_crashesNow_24 : decode cX11_crashesNow 24 = .ok (.putfield 125, 3) := by decide +kernel
theorem dX11_crashesNow_27 : decode cX11_crashesNow 27 = .ok (.aload_n 0, 1) := by decide +kernel
theorem dX11_crashesNow_28 : decode cX11_crashesNow 28 = .ok (.getfield 54, 3) := by decide +kernel
theorem dX11_crashesNow_31 : decode cX11_crashesNow 31 = .ok (.iconst 1, 1) := by decide +kernel
theorem dX11_crashesNow_32 : decode cX11_crashesNow 32 = .ok (.iconst (-1), 1) := by decide +kernel
theorem dX11_crashesNow_33 : decode cX11_crashesNow 33 = .ok (.iastore, 1) := by decide +kernel
theorem dX11_crashesNow_34 : decode cX11_crashesNow 34 = .ok (.aload_n 0, 1) := by decide +kernel
theorem dX11_crashesNow_35 : decode cX11_crashesNow 35 = .ok (.iconst 0, 1) := by decide +kernel
theorem dX11_crashesNow_36 : decode cX11_crashesNow 36 = .ok (.putfield 128, 3) := by decide +kernel
theorem dX11_crashesNow_39 : decode cX11_crashesNow 39 = .ok (.aload_n 0, 1) := by decide +kernel
theorem dX11_crashesNow_40 : decode cX11_crashesNow 40 = .ok (.dup, 1) := by decide +kernel
theorem dX11_crashesNow_41 : decode cX11_crashesNow 41 = .ok (.getfield 131, 3) := by decide +kernel
theorem dX11_crashesNow_44 : decode cX11_crashesNow 44 = .ok (.iconst 1, 1) := by decide +kernel
theorem dX11_crashesNow_45 : decode cX11_crashesNow 45 = .ok (.iadd, 1) := by decide +kernel
theorem dX11_crashesNow_46 : decode cX11_crashesNow 46 = .ok (.putfield 131, 3) := by decide +kernel
theorem dX11_crashesNow_49 : decode cX11_crashesNow 49 = .ok (.return_, 1) := by decide +kernel
theorem dX11_keeper_0 : decode cX11_keeper 0 = .ok (.aload_n 0, 1) := by decide +kernel
theorem dX11_keeper_1 : decode cX11_keeper 1 = .ok (.dup, 1) := by decide +kernel
theorem dX11_keeper_2 : decode cX11_keeper 2 = .ok (.getfield 134, 3) := by decide +kernel
theorem dX11_keeper_5 : decode cX11_keeper 5 = .ok (.iconst 1, 1) := by decide +kernel
theorem dX11_keeper_6 : decode cX11_keeper 6 = .ok (.iadd, 1) := by decide +kernel
theorem dX11_keeper_7 : decode cX11_keeper 7 = .ok (.putfield 134, 3) := by decide +kernel
theorem dX11_keeper_10 : decode cX11_keeper 10 = .ok (.aload_n 0, 1) := by decide +kernel
theorem dX11_keeper_11 : decode cX11_keeper 11 = .ok (.iconst 0, 1) := by decide +kernel
theorem dX11_keeper_12 : decode cX11_keeper 12 = .ok (.invokevirtual 137, 3) := by decide +kernel
theorem dX11_keeper_15 : decode cX11_keeper 15 = .ok (.ifCond .eq 4, 3) := by decide +kernel
theorem dX11_keeper_18 : decode cX11_keeper 18 = .ok (.return_, 1) := by decide +kernel
theorem dX11_keeper_19 : decode cX11_keeper 19 = .ok (.aload_n 0, 1) := by decide +kernel
theorem dX11_keeper_20 : decode cX11_keeper 20 = .ok (.getfield 15, 3) := by decide +kernel
theorem dX11_keeper_23 : decode cX11_keeper 23 = .ok (.ifCond .ne 26, 3) := by decide +kernel
theorem dX11_keeper_26 : decode cX11_keeper 26 = .ok (.aload_n 0, 1) := by decide +kernel
theorem dX11_keeper_27 : decode cX11_keeper 27 = .ok (.dup, 1) := by decide +kernel
theorem dX11_keeper_28 : decode cX11_keeper 28 = .ok (.getfield 128, 3) := by decide +kernel
theorem dX11_keeper_31 : decode cX11_keeper 31 = .ok (.iconst 1, 1) := by decide +kernel
theorem dX11_keeper_32 : decode cX11_keeper 32 = .ok (.iadd, 1) := by decide +kernel
theorem dX11_keeper_33 : decode cX11_keeper 33 = .ok (.putfield 128, 3) := by decide +kernel
theorem dX11_keeper_36 : decode cX11_keeper 36 = .ok (.aload_n 0, 1) := by decide +kernel
theorem dX11_keeper_37 : decode cX11_keeper 37 = .ok (.getfield 128, 3) := by decide +kernel
theorem dX11_keeper_40 : decode cX11_keeper 40 = .ok (.iconst 3, 1) := by decide +kernel
theorem dX11_keeper_41 : decode cX11_keeper 41 = .ok (.if_icmp .ne 7, 3) := by decide +kernel
theorem dX11_keeper_44 : decode cX11_keeper 44 = .ok (.aload_n 0, 1) := by decide +kernel
theorem dX11_keeper_45 : decode cX11_keeper 45 = .ok (.invokevirtual 140, 3) := by decide +kernel
theorem dX11_keeper_48 : decode cX11_keeper 48 = .ok (.return_, 1) := by decide +kernel
theorem dX11_keeper_49 : decode cX11_keeper 49 = .ok (.aload_n 0, 1) := by decide +kernel
theorem dX11_keeper_50 : decode cX11_keeper 50 = .ok (.getfield 38, 3) := by decide +kernel
theorem dX11_keeper_53 : decode cX11_keeper 53 = .ok (.iconst 0, 1) := by decide +kernel
theorem dX11_keeper_54 : decode cX11_keeper 54 = .ok (.iaload, 1) := by decide +kernel
theorem dX11_keeper_55 : decode cX11_keeper 55 = .ok (.ifCond .le 46, 3) := by decide +kernel
theorem dX11_keeper_58 : decode cX11_keeper 58 = .ok (.aload_n 0, 1) := by decide +kernel
theorem dX11_keeper_59 : decode cX11_keeper 59 = .ok (.iconst 0, 1) := by decide +kernel
theorem dX11_keeper_60 : decode cX11_keeper 60 = .ok (.iconst 0, 1) := by decide +kernel
theorem dX11_keeper_61 : decode cX11_keeper 61 = .ok (.invokevirtual 143, 3) := by decide +kernel
theorem dX11_keeper_64 : decode cX11_keeper 64 = .ok (.aload_n 0, 1) := by decide +kernel
theorem dX11_keeper_65 : decode cX11_keeper 65 = .ok (.getfield 61, 3) := by decide +kernel
theorem dX11_keeper_68 : decode cX11_keeper 68 = .ok (.iconst 1, 1) := by decide +kernel
theorem dX11_keeper_69 : decode cX11_keeper 69 = .ok (.iaload, 1) := by decide +kernel
theorem dX11_keeper_70 : decode cX11_keeper 70 = .ok (.ifCond .ne 4, 3) := by decide +kernel
theorem dX11_keeper_73 : decode cX11_keeper 73 = .ok (.return_, 1) := by decide +kernel
theorem dX11_keeper_74 : decode cX11_keeper 74 = .ok (.aload_n 0, 1) := by decide +kernel
theorem dX11_keeper_75 : decode cX11_keeper 75 = .ok (.aload_n 0, 1) := by decide +kernel
theorem dX11_keeper_76 : decode cX11_keeper 76 = .ok (.getfield 146, 3) := by decide +kernel
theorem dX11_keeper_79 : decode cX11_keeper 79 = .ok (.ifCond .eq 18, 3) := by decide +kernel
theorem dX11_keeper_82 : decode cX11_keeper 82 = .ok (.aload_n 0, 1) := by decide +kernel
theorem dX11_keeper_83 : decode cX11_keeper 83 = .ok (.getfield 61, 3) := by decide +kernel
theorem dX11_keeper_86 : decode cX11_keeper 86 = .ok (.iconst 1, 1) := by decide +kernel
theorem dX11_keeper_87 : decode cX11_keeper 87 = .ok (.iaload, 1) := by decide +kernel
theorem dX11_keeper_88 : decode cX11_keeper 88 = .ok (.bipush 41, 2) := by decide +kernel
theorem dX11_keeper_90 : decode cX11_keeper 90 = .ok (.if_icmp .eq 7, 3) := by decide +kernel
theorem dX11_keeper_93 : decode cX11_keeper 93 = .ok (.iconst 1, 1) := by decide +kernel
theorem dX11_keeper_94 : decode cX11_keeper 94 = .ok (.goto 4, 3) := by decide +kernel
theorem dX11_keeper_97 : decode cX11_keeper 97 = .ok (.iconst 0, 1) := by decide +kernel
theorem dX11_keeper_98 : decode cX11_keeper 98 = .ok (.putfield 146, 3) := by decide +kernel
theorem dX11_keeper_101 : decode cX11_keeper 101 = .ok (.aload_n 0, 1) := by decide +kernel
theorem dX11_keeper_102 : decode cX11_keeper 102 = .ok (.getfield 134, 3) := by decide +kernel
theorem dX11_keeper_105 : decode cX11_keeper 105 = .ok (.bipush 10, 2) := by decide +kernel
theorem dX11_keeper_107 : decode cX11_keeper 107 = .ok (.irem, 1) := by decide +kernel
theorem dX11_keeper_108 : decode cX11_keeper 108 = .ok (.ifCond .eq 4, 3) := by decide +kernel
theorem dX11_keeper_111 : decode cX11_keeper 111 = .ok (.return_, 1) := by decide +kernel
theorem dX11_keeper_112 : decode cX11_keeper 112 = .ok (.aload_n 0, 1) := by decide +kernel
theorem dX11_keeper_113 : decode cX11_keeper 113 = .ok (.getfield 146, 3) := by decide +kernel
theorem dX11_keeper_116 : decode cX11_keeper 116 = .ok (.ifCond .eq 15, 3) := by decide +kernel
theorem dX11_keeper_119 : decode cX11_keeper 119 = .ok (.aload_n 0, 1) := by decide +kernel
theorem dX11_keeper_120 : decode cX11_keeper 120 = .ok (.invokevirtual 149, 3) := by decide +kernel
theorem dX11_keeper_123 : decode cX11_keeper 123 = .ok (.aload_n 0, 1) := by decide +kernel
theorem dX11_keeper_124 : decode cX11_keeper 124 = .ok (.iconst 0, 1) := by decide +kernel
theorem dX11_keeper_125 : decode cX11_keeper 125 = .ok (.putfield 146, 3) := by decide +kernel
theorem dX11_keeper_128 : decode cX11_keeper 128 = .ok (.goto 22, 3) := by decide +kernel
theorem dX11_keeper_131 : decode cX11_keeper 131 = .ok (.aload_n 0, 1) := by decide +kernel
theorem dX11_keeper_132 : decode cX11_keeper 132 = .ok (.iconst 1, 1) := by decide +kernel
theorem dX11_keeper_133 : decode cX11_keeper 133 = .ok (.putfield 146, 3) := by decide +kernel
theorem dX11_keeper_136 : decode cX11_keeper 136 = .ok (.aload_n 0, 1) := by decide +kernel
theorem dX11_keeper_137 : decode cX11_keeper 137 = .ok (.bipush 40, 2) := by decide +kernel
theorem dX11_keeper_139 : decode cX11_keeper 139 = .ok (.iconst 0, 1) := by decide +kernel
theorem dX11_keeper_140 : decode cX11_keeper 140 = .ok (.iconst 0, 1) := by decide +kernel
theorem dX11_keeper_141 : decode cX11_keeper 141 = .ok (.invokevirtual 152, 3) := by decide +kernel
theorem dX11_keeper_144 : decode cX11_keeper 144 = .ok (.aload_n 0, 1) := by decide +kernel
theorem dX11_keeper_145 : decode cX11_keeper 145 = .ok (.iconst 0, 1) := by decide +kernel
theorem dX11_keeper_146 : decode cX11_keeper 146 = .ok (.iconst 1, 1) := by decide +kernel
theorem dX11_keeper_147 : decode cX11_keeper 147 = .ok (.invokevirtual 57, 3) := by decide +kernel
theorem dX11_keeper_150 : decode cX11_keeper 150 = .ok (.return_, 1) := by decide +kernel
theorem dX11_starts_0 : decode cX11_starts 0 = .ok (.aload_n 0, 1) := by decide +kernel
theorem dX11_starts_1 : decode cX11_starts 1 = .ok (.iconst 1, 1) := by decide +kernel
theorem dX11_starts_2 : decode cX11_starts 2 = .ok (.putfield 15, 3) := by decide +kernel
theorem dX11_starts_5 : decode cX11_starts 5 = .ok (.aload_n 0, 1) := by decide +kernel
theorem dX11_starts_6 : decode cX11_starts 6 = .ok (.iconst 0, 1) := by decide +kernel
theorem dX11_starts_7 : decode cX11_starts 7 = .ok (.putfield 119, 3) := by decide +kernel
theorem dX11_starts_10 : decode cX11_starts 10 = .ok (.aload_n 0, 1) := by decide +kernel
theorem dX11_starts_11 : decode cX11_starts 11 = .ok (.dup, 1) := by decide +kernel
theorem dX11_starts_12 : decode cX11_starts 12 = .ok (.getfield 35, 3) := by decide +kernel
theorem dX11_starts_15 : decode cX11_starts 15 = .ok (.iconst 1, 1) := by decide +kernel
theorem dX11_starts_16 : decode cX11_starts 16 = .ok (.iadd, 1) := by decide +kernel
theorem dX11_starts_17 : decode cX11_starts 17 = .ok (.putfield 35, 3) := by decide +kernel
theorem dX11_starts_20 : decode cX11_starts 20 = .ok (.aload_n 0, 1) := by decide +kernel
theorem dX11_starts_21 : decode cX11_starts 21 = .ok (.iconst 0, 1) := by decide +kernel
theorem dX11_starts_22 : decode cX11_starts 22 = .ok (.putfield 125, 3) := by decide +kernel
theorem dX11_starts_25 : decode cX11_starts 25 = .ok (.aload_n 0, 1) := by decide +kernel
theorem dX11_starts_26 : decode cX11_starts 26 = .ok (.iconst 0, 1) := by decide +kernel
theorem dX11_starts_27 : decode cX11_starts 27 = .ok (.putfield 122, 3) := by decide +kernel
theorem dX11_starts_30 : decode cX11_starts 30 = .ok (.aload_n 0, 1) := by decide +kernel
theorem dX11_starts_31 : decode cX11_starts 31 = .ok (.getfield 38, 3) := by decide +kernel
theorem dX11_starts_34 : decode cX11_starts 34 = .ok (.iconst 1, 1) := by decide +kernel
theorem dX11_starts_35 : decode cX11_starts 35 = .ok (.iconst 0, 1) := by decide +kernel
theorem dX11_starts_36 : decode cX11_starts 36 = .ok (.iastore, 1) := by decide +kernel
theorem dX11_starts_37 : decode cX11_starts 37 = .ok (.aload_n 0, 1) := by decide +kernel
theorem dX11_starts_38 : decode cX11_starts 38 = .ok (.iconst 0, 1) := by decide +kernel
theorem dX11_starts_39 : decode cX11_starts 39 = .ok (.putfield 146, 3) := by decide +kernel
theorem dX11_starts_42 : decode cX11_starts 42 = .ok (.aload_n 0, 1) := by decide +kernel
theorem dX11_starts_43 : decode cX11_starts 43 = .ok (.bipush 42, 2) := by decide +kernel
theorem dX11_starts_45 : decode cX11_starts 45 = .ok (.aload_n 0, 1) := by decide +kernel
theorem dX11_starts_46 : decode cX11_starts 46 = .ok (.getfield 35, 3) := by decide +kernel
theorem dX11_starts_49 : decode cX11_starts 49 = .ok (.iconst 0, 1) := by decide +kernel
theorem dX11_starts_50 : decode cX11_starts 50 = .ok (.invokevirtual 152, 3) := by decide +kernel
theorem dX11_starts_53 : decode cX11_starts 53 = .ok (.aload_n 0, 1) := by decide +kernel
theorem dX11_starts_54 : decode cX11_starts 54 = .ok (.iconst 0, 1) := by decide +kernel
theorem dX11_starts_55 : decode cX11_starts 55 = .ok (.iconst 2, 1) := by decide +kernel
theorem dX11_starts_56 : decode cX11_starts 56 = .ok (.invokevirtual 57, 3) := by decide +kernel
theorem dX11_starts_59 : decode cX11_starts 59 = .ok (.return_, 1) := by decide +kernel
theorem dX11_driver_0 : decode cX11_driver 0 = .ok (.aload_n 0, 1) := by decide +kernel
theorem dX11_driver_1 : decode cX11_driver 1 = .ok (.getfield 119, 3) := by decide +kernel
theorem dX11_driver_4 : decode cX11_driver 4 = .ok (.ifCond .ne 11, 3) := by decide +kernel
theorem dX11_driver_7 : decode cX11_driver 7 = .ok (.aload_n 0, 1) := by decide +kernel
theorem dX11_driver_8 : decode cX11_driver 8 = .ok (.iconst 1, 1) := by decide +kernel
theorem dX11_driver_9 : decode cX11_driver 9 = .ok (.invokevirtual 137, 3) := by decide +kernel
theorem dX11_driver_12 : decode cX11_driver 12 = .ok (.ifCond .eq 4, 3) := by decide +kernel
theorem dX11_driver_15 : decode cX11_driver 15 = .ok (.return_, 1) := by decide +kernel
theorem dX11_driver_16 : decode cX11_driver 16 = .ok (.iconst 0, 1) := by decide +kernel
theorem dX11_driver_17 : decode cX11_driver 17 = .ok (.istore_n 1, 1) := by decide +kernel
theorem dX11_driver_18 : decode cX11_driver 18 = .ok (.iload_n 1, 1) := by decide +kernel
theorem dX11_driver_19 : decode cX11_driver 19 = .ok (.aload_n 0, 1) := by decide +kernel
theorem dX11_driver_20 : decode cX11_driver 20 = .ok (.getfield 38, 3) := by decide +kernel
theorem dX11_driver_23 : decode cX11_driver 23 = .ok (.iconst 1, 1) := by decide +kernel
theorem dX11_driver_24 : decode cX11_driver 24 = .ok (.iaload, 1) := by decide +kernel
theorem dX11_driver_25 : decode cX11_driver 25 = .ok (.if_icmp .ge 42, 3) := by decide +kernel
theorem dX11_driver_28 : decode cX11_driver 28 = .ok (.aload_n 0, 1) := by decide +kernel
theorem dX11_driver_29 : decode cX11_driver 29 = .ok (.iconst 1, 1) := by decide +kernel
theorem dX11_driver_30 : decode cX11_driver 30 = .ok (.iload_n 1, 1) := by decide +kernel
theorem dX11_driver_31 : decode cX11_driver 31 = .ok (.iconst 1, 1) := by decide +kernel
theorem dX11_driver_32 : decode cX11_driver 32 = .ok (.invokevirtual 156, 3) := by decide +kernel
theorem dX11_driver_35 : decode cX11_driver 35 = .ok (.bipush 40, 2) := by decide +kernel
theorem dX11_driver_37 : decode cX11_driver 37 = .ok (.if_icmp .ne 24, 3) := by decide +kernel
theorem dX11_driver_40 : decode cX11_driver 40 = .ok (.aload_n 0, 1) := by decide +kernel
theorem dX11_driver_41 : decode cX11_driver 41 = .ok (.iconst 1, 1) := by decide +kernel
theorem dX11_driver_42 : decode cX11_driver 42 = .ok (.iload_n 1, 1) := by decide +kernel
theorem dX11_driver_43 : decode cX11_driver 43 = .ok (.invokevirtual 64, 3) := by decide +kernel
theorem dX11_driver_46 : decode cX11_driver 46 = .ok (.aload_n 0, 1) := by decide +kernel
theorem dX11_driver_47 : decode cX11_driver 47 = .ok (.bipush 41, 2) := by decide +kernel
theorem dX11_driver_49 : decode cX11_driver 49 = .ok (.iconst 0, 1) := by decide +kernel
theorem dX11_driver_50 : decode cX11_driver 50 = .ok (.iconst 0, 1) := by decide +kernel
theorem dX11_driver_51 : decode cX11_driver 51 = .ok (.invokevirtual 152, 3) := by decide +kernel
theorem dX11_driver_54 : decode cX11_driver 54 = .ok (.aload_n 0, 1) := by decide +kernel
theorem dX11_driver_55 : decode cX11_driver 55 = .ok (.iconst 1, 1) := by decide +kernel
theorem dX11_driver_56 : decode cX11_driver 56 = .ok (.iconst 0, 1) := by decide +kernel
theorem dX11_driver_57 : decode cX11_driver 57 = .ok (.invokevirtual 57, 3) := by decide +kernel
theorem dX11_driver_60 : decode cX11_driver 60 = .ok (.return_, 1) := by decide +kernel
theorem dX11_driver_61 : decode cX11_driver 61 = .ok (.iinc 1 1, 3) := by decide +kernel
theorem dX11_driver_64 : decode cX11_driver 64 = .ok (.goto (-46), 3) := by decide +kernel
theorem dX11_driver_67 : decode cX11_driver 67 = .ok (.aload_n 0, 1) := by decide +kernel
theorem dX11_driver_68 : decode cX11_driver 68 = .ok (.getfield 122, 3) := by decide +kernel
end
section
theorem dX11_driver_71 : decode cX11_driver 71 = .ok (.ifCond .le 10, 3) := by decide +kernel
theorem dX11_driver_74 : decode cX11_driver 74 = .ok (.aload_n 0, 1) := by decide +kernel
theorem dX11_driver_75 : decode cX11_driver 75 = .ok (.invokevirtual 160, 3) := by decide +kernel
theorem dX11_driver_78 : decode cX11_driver 78 = .ok (.goto 88, 3) := by decide +kernel
theorem dX11_driver_81 : decode cX11_driver 81 = .ok (.aload_n 0, 1) := by decide +kernel
theorem dX11_driver_82 : decode cX11_driver 82 = .ok (.getfield 38, 3) := by decide +kernel
theorem dX11_driver_85 : decode cX11_driver 85 = .ok (.iconst 1, 1) := by decide +kernel
theorem dX11_driver_86 : decode cX11_driver 86 = .ok (.iaload, 1) := by decide +kernel
theorem dX11_driver_87 : decode cX11_driver 87 = .ok (.ifCond .le 79, 3) := by decide +kernel
theorem dX11_driver_90 : decode cX11_driver 90 = .ok (.aload_n 0, 1) := by decide +kernel
theorem dX11_driver_91 : decode cX11_driver 91 = .ok (.iconst 1, 1) := by decide +kernel
theorem dX11_driver_92 : decode cX11_driver 92 = .ok (.iconst 0, 1) := by decide +kernel
theorem dX11_driver_93 : decode cX11_driver 93 = .ok (.invokevirtual 143, 3) := by decide +kernel
theorem dX11_driver_96 : decode cX11_driver 96 = .ok (.aload_n 0, 1) := by decide +kernel
theorem dX11_driver_97 : decode cX11_driver 97 = .ok (.getfield 61, 3) := by decide +kernel
theorem dX11_driver_100 : decode cX11_driver 100 = .ok (.iconst 1, 1) := by decide +kernel
theorem dX11_driver_101 : decode cX11_driver 101 = .ok (.iaload, 1) := by decide +kernel
theorem dX11_driver_102 : decode cX11_driver 102 = .ok (.bipush 20, 2) := by decide +kernel
theorem dX11_driver_104 : decode cX11_driver 104 = .ok (.if_icmp .eq 14, 3) := by decide +kernel
theorem dX11_driver_107 : decode cX11_driver 107 = .ok (.aload_n 0, 1) := by decide +kernel
theorem dX11_driver_108 : decode cX11_driver 108 = .ok (.getfield 61, 3) := by decide +kernel
theorem dX11_driver_111 : decode cX11_driver 111 = .ok (.iconst 1, 1) := by decide +kernel
theorem dX11_driver_112 : decode cX11_driver 112 = .ok (.iaload, 1) := by decide +kernel
theorem dX11_driver_113 : decode cX11_driver 113 = .ok (.bipush 21, 2) := by decide +kernel
theorem dX11_driver_115 : decode cX11_driver 115 = .ok (.if_icmp .ne 51, 3) := by decide +kernel
theorem dX11_driver_118 : decode cX11_driver 118 = .ok (.aload_n 0, 1) := by decide +kernel
theorem dX11_driver_119 : decode cX11_driver 119 = .ok (.aload_n 0, 1) := by decide +kernel
theorem dX11_driver_120 : decode cX11_driver 120 = .ok (.getfield 61, 3) := by decide +kernel
theorem dX11_driver_123 : decode cX11_driver 123 = .ok (.iconst 1, 1) := by decide +kernel
theorem dX11_driver_124 : decode cX11_driver 124 = .ok (.iaload, 1) := by decide +kernel
theorem dX11_driver_125 : decode cX11_driver 125 = .ok (.putfield 122, 3) := by decide +kernel
theorem dX11_driver_128 : decode cX11_driver 128 = .ok (.aload_n 0, 1) := by decide +kernel
theorem dX11_driver_129 : decode cX11_driver 129 = .ok (.aload_n 0, 1) := by decide +kernel
theorem dX11_driver_130 : decode cX11_driver 130 = .ok (.getfield 61, 3) := by decide +kernel
theorem dX11_driver_133 : decode cX11_driver 133 = .ok (.iconst 2, 1) := by decide +kernel
theorem dX11_driver_134 : decode cX11_driver 134 = .ok (.iaload, 1) := by decide +kernel
theorem dX11_driver_135 : decode cX11_driver 135 = .ok (.putfield 163, 3) := by decide +kernel
theorem dX11_driver_138 : decode cX11_driver 138 = .ok (.iconst 0, 1) := by decide +kernel
theorem dX11_driver_139 : decode cX11_driver 139 = .ok (.istore_n 1, 1) := by decide +kernel
theorem dX11_driver_140 : decode cX11_driver 140 = .ok (.iload_n 1, 1) := by decide +kernel
theorem dX11_driver_141 : decode cX11_driver 141 = .ok (.bipush 8, 2) := by decide +kernel
theorem dX11_driver_143 : decode cX11_driver 143 = .ok (.if_icmp .ge 23, 3) := by decide +kernel
theorem dX11_driver_146 : decode cX11_driver 146 = .ok (.aload_n 0, 1) := by decide +kernel
theorem dX11_driver_147 : decode cX11_driver 147 = .ok (.getfield 113, 3) := by decide +kernel
theorem dX11_driver_150 : decode cX11_driver 150 = .ok (.iload_n 1, 1) := by decide +kernel
theorem dX11_driver_151 : decode cX11_driver 151 = .ok (.aload_n 0, 1) := by decide +kernel
theorem dX11_driver_152 : decode cX11_driver 152 = .ok (.getfield 61, 3) := by decide +kernel
theorem dX11_driver_155 : decode cX11_driver 155 = .ok (.iconst 5, 1) := by decide +kernel
theorem dX11_driver_156 : decode cX11_driver 156 = .ok (.iload_n 1, 1) := by decide +kernel
theorem dX11_driver_157 : decode cX11_driver 157 = .ok (.iadd, 1) := by decide +kernel
theorem dX11_driver_158 : decode cX11_driver 158 = .ok (.iaload, 1) := by decide +kernel
theorem dX11_driver_159 : decode cX11_driver 159 = .ok (.iastore, 1) := by decide +kernel
theorem dX11_driver_160 : decode cX11_driver 160 = .ok (.iinc 1 1, 3) := by decide +kernel
theorem dX11_driver_163 : decode cX11_driver 163 = .ok (.goto (-23), 3) := by decide +kernel
theorem dX11_driver_166 : decode cX11_driver 166 = .ok (.return_, 1) := by decide +kernel
theorem dX11_works_0 : decode cX11_works 0 = .ok (.aload_n 0, 1) := by decide +kernel
theorem dX11_works_1 : decode cX11_works 1 = .ok (.getfield 125, 3) := by decide +kernel
theorem dX11_works_4 : decode cX11_works 4 = .ok (.aload_n 0, 1) := by decide +kernel
theorem dX11_works_5 : decode cX11_works 5 = .ok (.getfield 163, 3) := by decide +kernel
theorem dX11_works_8 : decode cX11_works 8 = .ok (.if_icmp .eq 29, 3) := by decide +kernel
theorem dX11_works_11 : decode cX11_works 11 = .ok (.aload_n 0, 1) := by decide +kernel
theorem dX11_works_12 : decode cX11_works 12 = .ok (.dup, 1) := by decide +kernel
theorem dX11_works_13 : decode cX11_works 13 = .ok (.getfield 125, 3) := by decide +kernel
theorem dX11_works_16 : decode cX11_works 16 = .ok (.aload_n 0, 1) := by decide +kernel
theorem dX11_works_17 : decode cX11_works 17 = .ok (.getfield 125, 3) := by decide +kernel
theorem dX11_works_20 : decode cX11_works 20 = .ok (.aload_n 0, 1) := by decide +kernel
theorem dX11_works_21 : decode cX11_works 21 = .ok (.getfield 163, 3) := by decide +kernel
theorem dX11_works_24 : decode cX11_works 24 = .ok (.if_icmp .ge 7, 3) := by decide +kernel
theorem dX11_works_27 : decode cX11_works 27 = .ok (.iconst 1, 1) := by decide +kernel
theorem dX11_works_28 : decode cX11_works 28 = .ok (.goto 4, 3) := by decide +kernel
theorem dX11_works_31 : decode cX11_works 31 = .ok (.iconst (-1), 1) := by decide +kernel
theorem dX11_works_32 : decode cX11_works 32 = .ok (.iadd, 1) := by decide +kernel
theorem dX11_works_33 : decode cX11_works 33 = .ok (.putfield 125, 3) := by decide +kernel
theorem dX11_works_36 : decode cX11_works 36 = .ok (.return_, 1) := by decide +kernel
theorem dX11_works_37 : decode cX11_works 37 = .ok (.aload_n 0, 1) := by decide +kernel
theorem dX11_works_38 : decode cX11_works 38 = .ok (.bipush 22, 2) := by decide +kernel
theorem dX11_works_40 : decode cX11_works 40 = .ok (.iconst 0, 1) := by decide +kernel
theorem dX11_works_41 : decode cX11_works 41 = .ok (.iconst 0, 1) := by decide +kernel
theorem dX11_works_42 : decode cX11_works 42 = .ok (.invokevirtual 152, 3) := by decide +kernel
theorem dX11_works_45 : decode cX11_works 45 = .ok (.iconst 0, 1) := by decide +kernel
theorem dX11_works_46 : decode cX11_works 46 = .ok (.istore_n 1, 1) := by decide +kernel
theorem dX11_works_47 : decode cX11_works 47 = .ok (.iload_n 1, 1) := by decide +kernel
theorem dX11_works_48 : decode cX11_works 48 = .ok (.bipush 8, 2) := by decide +kernel
theorem dX11_works_50 : decode cX11_works 50 = .ok (.if_icmp .ge 63, 3) := by decide +kernel
theorem dX11_works_53 : decode cX11_works 53 = .ok (.aload_n 0, 1) := by decide +kernel
theorem dX11_works_54 : decode cX11_works 54 = .ok (.getfield 122, 3) := by decide +kernel
theorem dX11_works_57 : decode cX11_works 57 = .ok (.bipush 20, 2) := by decide +kernel
theorem dX11_works_59 : decode cX11_works 59 = .ok (.if_icmp .ne 28, 3) := by decide +kernel
theorem dX11_works_62 : decode cX11_works 62 = .ok (.aload_n 0, 1) := by decide +kernel
theorem dX11_works_63 : decode cX11_works 63 = .ok (.getfield 7, 3) := by decide +kernel
theorem dX11_works_66 : decode cX11_works 66 = .ok (.iconst 5, 1) := by decide +kernel
theorem dX11_works_67 : decode cX11_works 67 = .ok (.iload_n 1, 1) := by decide +kernel
theorem dX11_works_68 : decode cX11_works 68 = .ok (.iadd, 1) := by decide +kernel
theorem dX11_works_69 : decode cX11_works 69 = .ok (.aload_n 0, 1) := by decide +kernel
theorem dX11_works_70 : decode cX11_works 70 = .ok (.getfield 110, 3) := by decide +kernel
theorem dX11_works_73 : decode cX11_works 73 = .ok (.bipush 8, 2) := by decide +kernel
theorem dX11_works_75 : decode cX11_works 75 = .ok (.aload_n 0, 1) := by decide +kernel
theorem dX11_works_76 : decode cX11_works 76 = .ok (.getfield 163, 3) := by decide +kernel
theorem dX11_works_79 : decode cX11_works 79 = .ok (.imul, 1) := by decide +kernel
theorem dX11_works_80 : decode cX11_works 80 = .ok (.iload_n 1, 1) := by decide +kernel
theorem dX11_works_81 : decode cX11_works 81 = .ok (.iadd, 1) := by decide +kernel
theorem dX11_works_82 : decode cX11_works 82 = .ok (.iaload, 1) := by decide +kernel
theorem dX11_works_83 : decode cX11_works 83 = .ok (.iastore, 1) := by decide +kernel
theorem dX11_works_84 : decode cX11_works 84 = .ok (.goto 23, 3) := by decide +kernel
theorem dX11_works_87 : decode cX11_works 87 = .ok (.aload_n 0, 1) := by decide +kernel
theorem dX11_works_88 : decode cX11_works 88 = .ok (.getfield 110, 3) := by decide +kernel
theorem dX11_works_91 : decode cX11_works 91 = .ok (.bipush 8, 2) := by decide +kernel
theorem dX11_works_93 : decode cX11_works 93 = .ok (.aload_n 0, 1) := by decide +kernel
theorem dX11_works_94 : decode cX11_works 94 = .ok (.getfield 163, 3) := by decide +kernel
theorem dX11_works_97 : decode cX11_works 97 = .ok (.imul, 1) := by decide +kernel
theorem dX11_works_98 : decode cX11_works 98 = .ok (.iload_n 1, 1) := by decide +kernel
theorem dX11_works_99 : decode cX11_works 99 = .ok (.iadd, 1) := by decide +kernel
theorem dX11_works_100 : decode cX11_works 100 = .ok (.aload_n 0, 1) := by decide +kernel
theorem dX11_works_101 : decode cX11_works 101 = .ok (.getfield 113, 3) := by decide +kernel
theorem dX11_works_104 : decode cX11_works 104 = .ok (.iload_n 1, 1) := by decide +kernel
theorem dX11_works_105 : decode cX11_works 105 = .ok (.iaload, 1) := by decide +kernel
theorem dX11_works_106 : decode cX11_works 106 = .ok (.iastore, 1) := by decide +kernel
theorem dX11_works_107 : decode cX11_works 107 = .ok (.iinc 1 1, 3) := by decide +kernel
theorem dX11_works_110 : decode cX11_works 110 = .ok (.goto (-63), 3) := by decide +kernel
theorem dX11_works_113 : decode cX11_works 113 = .ok (.aload_n 0, 1) := by decide +kernel
theorem dX11_works_114 : decode cX11_works 114 = .ok (.iconst 0, 1) := by decide +kernel
theorem dX11_works_115 : decode cX11_works 115 = .ok (.putfield 122, 3) := by decide +kernel
theorem dX11_works_118 : decode cX11_works 118 = .ok (.aload_n 0, 1) := by decide +kernel
theorem dX11_works_119 : decode cX11_works 119 = .ok (.iconst 1, 1) := by decide +kernel
theorem dX11_works_120 : decode cX11_works 120 = .ok (.iconst 2, 1) := by decide +kernel
theorem dX11_works_121 : decode cX11_works 121 = .ok (.invokevirtual 57, 3) := by decide +kernel
theorem dX11_works_124 : decode cX11_works 124 = .ok (.return_, 1) := by decide +kernel
theorem dX11_files_0 : decode cX11_files 0 = .ok (.aload_n 0, 1) := by decide +kernel
theorem dX11_files_1 : decode cX11_files 1 = .ok (.iconst 2, 1) := by decide +kernel
theorem dX11_files_2 : decode cX11_files 2 = .ok (.invokevirtual 137, 3) := by decide +kernel
theorem dX11_files_5 : decode cX11_files 5 = .ok (.ifCond .eq 4, 3) := by decide +kernel
theorem dX11_files_8 : decode cX11_files 8 = .ok (.return_, 1) := by decide +kernel
theorem dX11_files_9 : decode cX11_files 9 = .ok (.iconst 0, 1) := by decide +kernel
theorem dX11_files_10 : decode cX11_files 10 = .ok (.istore_n 1, 1) := by decide +kernel
theorem dX11_files_11 : decode cX11_files 11 = .ok (.aload_n 0, 1) := by decide +kernel
theorem dX11_files_12 : decode cX11_files 12 = .ok (.getfield 166, 3) := by decide +kernel
theorem dX11_files_15 : decode cX11_files 15 = .ok (.ifCond .eq 40, 3) := by decide +kernel
theorem dX11_files_18 : decode cX11_files 18 = .ok (.iload_n 1, 1) := by decide +kernel
theorem dX11_files_19 : decode cX11_files 19 = .ok (.aload_n 0, 1) := by decide +kernel
theorem dX11_files_20 : decode cX11_files 20 = .ok (.getfield 38, 3) := by decide +kernel
theorem dX11_files_23 : decode cX11_files 23 = .ok (.iconst 2, 1) := by decide +kernel
theorem dX11_files_24 : decode cX11_files 24 = .ok (.iaload, 1) := by decide +kernel
theorem dX11_files_25 : decode cX11_files 25 = .ok (.if_icmp .ge 30, 3) := by decide +kernel
theorem dX11_files_28 : decode cX11_files 28 = .ok (.aload_n 0, 1) := by decide +kernel
theorem dX11_files_29 : decode cX11_files 29 = .ok (.iconst 2, 1) := by decide +kernel
theorem dX11_files_30 : decode cX11_files 30 = .ok (.iload_n 1, 1) := by decide +kernel
theorem dX11_files_31 : decode cX11_files 31 = .ok (.iconst 0, 1) := by decide +kernel
theorem dX11_files_32 : decode cX11_files 32 = .ok (.invokevirtual 156, 3) := by decide +kernel
theorem dX11_files_35 : decode cX11_files 35 = .ok (.iconst 1, 1) := by decide +kernel
theorem dX11_files_36 : decode cX11_files 36 = .ok (.if_icmp .le 19, 3) := by decide +kernel
theorem dX11_files_39 : decode cX11_files 39 = .ok (.aload_n 0, 1) := by decide +kernel
theorem dX11_files_40 : decode cX11_files 40 = .ok (.iconst 2, 1) := by decide +kernel
theorem dX11_files_41 : decode cX11_files 41 = .ok (.iload_n 1, 1) := by decide +kernel
theorem dX11_files_42 : decode cX11_files 42 = .ok (.iconst 1, 1) := by decide +kernel
theorem dX11_files_43 : decode cX11_files 43 = .ok (.invokevirtual 156, 3) := by decide +kernel
theorem dX11_files_46 : decode cX11_files 46 = .ok (.ifCond .eq 9, 3) := by decide +kernel
theorem dX11_files_49 : decode cX11_files 49 = .ok (.iinc 1 1, 3) := by decide +kernel
theorem dX11_files_52 : decode cX11_files 52 = .ok (.goto (-41), 3) := by decide +kernel
theorem dX11_files_55 : decode cX11_files 55 = .ok (.iload_n 1, 1) := by decide +kernel
theorem dX11_files_56 : decode cX11_files 56 = .ok (.aload_n 0, 1) := by decide +kernel
theorem dX11_files_57 : decode cX11_files 57 = .ok (.getfield 38, 3) := by decide +kernel
theorem dX11_files_60 : decode cX11_files 60 = .ok (.iconst 2, 1) := by decide +kernel
theorem dX11_files_61 : decode cX11_files 61 = .ok (.iaload, 1) := by decide +kernel
theorem dX11_files_62 : decode cX11_files 62 = .ok (.if_icmp .ne 4, 3) := by decide +kernel
theorem dX11_files_65 : decode cX11_files 65 = .ok (.return_, 1) := by decide +kernel
theorem dX11_files_66 : decode cX11_files 66 = .ok (.aload_n 0, 1) := by decide +kernel
theorem dX11_files_67 : decode cX11_files 67 = .ok (.iconst 2, 1) := by decide +kernel
theorem dX11_files_68 : decode cX11_files 68 = .ok (.iload_n 1, 1) := by decide +kernel
theorem dX11_files_69 : decode cX11_files 69 = .ok (.invokevirtual 143, 3) := by decide +kernel
theorem dX11_files_72 : decode cX11_files 72 = .ok (.aload_n 0, 1) := by decide +kernel
theorem dX11_files_73 : decode cX11_files 73 = .ok (.getfield 61, 3) := by decide +kernel
theorem dX11_files_76 : decode cX11_files 76 = .ok (.iconst 0, 1) := by decide +kernel
theorem dX11_files_77 : decode cX11_files 77 = .ok (.iaload, 1) := by decide +kernel
theorem dX11_files_78 : decode cX11_files 78 = .ok (.istore_n 2, 1) := by decide +kernel
theorem dX11_files_79 : decode cX11_files 79 = .ok (.aload_n 0, 1) := by decide +kernel
theorem dX11_files_80 : decode cX11_files 80 = .ok (.getfield 61, 3) := by decide +kernel
theorem dX11_files_83 : decode cX11_files 83 = .ok (.iconst 1, 1) := by decide +kernel
theorem dX11_files_84 : decode cX11_files 84 = .ok (.iaload, 1) := by decide +kernel
theorem dX11_files_85 : decode cX11_files 85 = .ok (.lookupswitch 142 #[(0, 51), (22, 52), (30, 86), (31, 117), (42, 64)], 51) := by decide +kernel
theorem dX11_files_136 : decode cX11_files 136 = .ok (.return_, 1) := by decide +kernel
theorem dX11_files_137 : decode cX11_files 137 = .ok (.aload_n 0, 1) := by decide +kernel
theorem dX11_files_138 : decode cX11_files 138 = .ok (.getfield 166, 3) := by decide +kernel
theorem dX11_files_141 : decode cX11_files 141 = .ok (.ifCond .eq 7, 3) := by decide +kernel
theorem dX11_files_144 : decode cX11_files 144 = .ok (.aload_n 0, 1) := by decide +kernel
theorem dX11_files_145 : decode cX11_files 145 = .ok (.invokevirtual 169, 3) := by decide +kernel
theorem dX11_files_148 : decode cX11_files 148 = .ok (.return_, 1) := by decide +kernel
theorem dX11_files_149 : decode cX11_files 149 = .ok (.aload_n 0, 1) := by decide +kernel
theorem dX11_files_150 : decode cX11_files 150 = .ok (.aload_n 0, 1) := by decide +kernel
theorem dX11_files_151 : decode cX11_files 151 = .ok (.getfield 61, 3) := by decide +kernel
theorem dX11_files_154 : decode cX11_files 154 = .ok (.iconst 2, 1) := by decide +kernel
theorem dX11_files_155 : decode cX11_files 155 = .ok (.iaload, 1) := by decide +kernel
theorem dX11_files_156 : decode cX11_files 156 = .ok (.putfield 32, 3) := by decide +kernel
theorem dX11_files_159 : decode cX11_files 159 = .ok (.aload_n 0, 1) := by decide +kernel
theorem dX11_files_160 : decode cX11_files 160 = .ok (.getfield 166, 3) := by decide +kernel
theorem dX11_files_163 : decode cX11_files 163 = .ok (.ifCond .eq 7, 3) := by decide +kernel
theorem dX11_files_166 : decode cX11_files 166 = .ok (.aload_n 0, 1) := by decide +kernel
theorem dX11_files_167 : decode cX11_files 167 = .ok (.invokevirtual 172, 3) := by decide +kernel
theorem dX11_files_170 : decode cX11_files 170 = .ok (.return_, 1) := by decide +kernel
theorem dX11_files_171 : decode cX11_files 171 = .ok (.aload_n 0, 1) := by decide +kernel
theorem dX11_files_172 : decode cX11_files 172 = .ok (.aload_n 0, 1) := by decide +kernel
theorem dX11_files_173 : decode cX11_files 173 = .ok (.getfield 61, 3) := by decide +kernel
theorem dX11_files_176 : decode cX11_files 176 = .ok (.iconst 2, 1) := by decide +kernel
theorem dX11_files_177 : decode cX11_files 177 = .ok (.iaload, 1) := by decide +kernel
theorem dX11_files_178 : decode cX11_files 178 = .ok (.aload_n 0, 1) := by decide +kernel
theorem dX11_files_179 : decode cX11_files 179 = .ok (.getfield 61, 3) := by decide +kernel
theorem dX11_files_182 : decode cX11_files 182 = .ok (.iconst 3, 1) := by decide +kernel
theorem dX11_files_183 : decode cX11_files 183 = .ok (.iaload, 1) := by decide +kernel
theorem dX11_files_184 : decode cX11_files 184 = .ok (.invokevirtual 175, 3) := by decide +kernel
theorem dX11_files_187 : decode cX11_files 187 = .ok (.aload_n 0, 1) := by decide +kernel
theorem dX11_files_188 : decode cX11_files 188 = .ok (.bipush 32, 2) := by decide +kernel
theorem dX11_files_190 : decode cX11_files 190 = .ok (.iconst 0, 1) := by decide +kernel
theorem dX11_files_191 : decode cX11_files 191 = .ok (.iconst 0, 1) := by decide +kernel
theorem dX11_files_192 : decode cX11_files 192 = .ok (.invokevirtual 152, 3) := by decide +kernel
theorem dX11_files_195 : decode cX11_files 195 = .ok (.aload_n 0, 1) := by decide +kernel
theorem dX11_files_196 : decode cX11_files 196 = .ok (.iconst 2, 1) := by decide +kernel
theorem dX11_files_197 : decode cX11_files 197 = .ok (.iconst 3, 1) := by decide +kernel
theorem dX11_files_198 : decode cX11_files 198 = .ok (.invokevirtual 57, 3) := by decide +kernel
theorem dX11_files_201 : decode cX11_files 201 = .ok (.return_, 1) := by decide +kernel
theorem dX11_files_202 : decode cX11_files 202 = .ok (.aload_n 0, 1) := by decide +kernel
theorem dX11_files_203 : decode cX11_files 203 = .ok (.aload_n 0, 1) := by decide +kernel
theorem dX11_files_204 : decode cX11_files 204 = .ok (.getfield 61, 3) := by decide +kernel
theorem dX11_files_207 : decode cX11_files 207 = .ok (.iconst 2, 1) := by decide +kernel
theorem dX11_files_208 : decode cX11_files 208 = .ok (.iaload, 1) := by decide +kernel
theorem dX11_files_209 : decode cX11_files 209 = .ok (.invokevirtual 178, 3) := by decide +kernel
theorem dX11_files_212 : decode cX11_files 212 = .ok (.aload_n 0, 1) := by decide +kernel
theorem dX11_files_213 : decode cX11_files 213 = .ok (.bipush 32, 2) := by decide +kernel
theorem dX11_files_215 : decode cX11_files 215 = .ok (.iconst 0, 1) := by decide +kernel
theorem dX11_files_216 : decode cX11_files 216 = .ok (.iconst 0, 1) := by decide +kernel
theorem dX11_files_217 : decode cX11_files 217 = .ok (.invokevirtual 152, 3) := by decide +kernel
theorem dX11_files_220 : decode cX11_files 220 = .ok (.aload_n 0, 1) := by decide +kernel
theorem dX11_files_221 : decode cX11_files 221 = .ok (.iconst 2, 1) := by decide +kernel
theorem dX11_files_222 : decode cX11_files 222 = .ok (.iconst 3, 1) := by decide +kernel
theorem dX11_files_223 : decode cX11_files 223 = .ok (.invokevirtual 57, 3) := by decide +kernel
theorem dX11_files_226 : decode cX11_files 226 = .ok (.return_, 1) := by decide +kernel
theorem dX11_files_227 : decode cX11_files 227 = .ok (.aload_n 0, 1) := by decide +kernel
theorem dX11_files_228 : decode cX11_files 228 = .ok (.iload_n 2, 1) := by decide +kernel
theorem dX11_files_229 : decode cX11_files 229 = .ok (.aload_n 0, 1) := by decide +kernel
theorem dX11_files_230 : decode cX11_files 230 = .ok (.getfield 61, 3) := by decide +kernel
theorem dX11_files_233 : decode cX11_files 233 = .ok (.iconst 1, 1) := by decide +kernel
theorem dX11_files_234 : decode cX11_files 234 = .ok (.iaload, 1) := by decide +kernel
theorem dX11_files_235 : decode cX11_files 235 = .ok (.aload_n 0, 1) := by decide +kernel
theorem dX11_files_236 : decode cX11_files 236 = .ok (.getfield 61, 3) := by decide +kernel
theorem dX11_files_239 : decode cX11_files 239 = .ok (.iconst 2, 1) := by decide +kernel
theorem dX11_files_240 : decode cX11_files 240 = .ok (.iaload, 1) := by decide +kernel
theorem dX11_files_241 : decode cX11_files 241 = .ok (.aload_n 0, 1) := by decide +kernel
theorem dX11_files_242 : decode cX11_files 242 = .ok (.getfield 61, 3) := by decide +kernel
theorem dX11_files_245 : decode cX11_files 245 = .ok (.iconst 3, 1) := by decide +kernel
theorem dX11_files_246 : decode cX11_files 246 = .ok (.iaload, 1) := by decide +kernel
theorem dX11_files_247 : decode cX11_files 247 = .ok (.invokevirtual 182, 3) := by decide +kernel
theorem dX11_files_250 : decode cX11_files 250 = .ok (.return_, 1) := by decide +kernel
theorem dX11_asksDriver_0 : decode cX11_asksDriver 0 = .ok (.aload_n 0, 1) := by decide +kernel
theorem dX11_asksDriver_1 : decode cX11_asksDriver 1 = .ok (.iconst 1, 1) := by decide +kernel
theorem dX11_asksDriver_2 : decode cX11_asksDriver 2 = .ok (.putfield 166, 3) := by decide +kernel
theorem dX11_asksDriver_5 : decode cX11_asksDriver 5 = .ok (.aload_n 0, 1) := by decide +kernel
theorem dX11_asksDriver_6 : decode cX11_asksDriver 6 = .ok (.aload_n 0, 1) := by decide +kernel
theorem dX11_asksDriver_7 : decode cX11_asksDriver 7 = .ok (.getfield 186, 3) := by decide +kernel
theorem dX11_asksDriver_10 : decode cX11_asksDriver 10 = .ok (.aload_n 0, 1) := by decide +kernel
theorem dX11_asksDriver_11 : decode cX11_asksDriver 11 = .ok (.getfield 189, 3) := by decide +kernel
theorem dX11_asksDriver_14 : decode cX11_asksDriver 14 = .ok (.iconst 0, 1) := by decide +kernel
theorem dX11_asksDriver_15 : decode cX11_asksDriver 15 = .ok (.invokevirtual 152, 3) := by decide +kernel
theorem dX11_asksDriver_18 : decode cX11_asksDriver 18 = .ok (.iconst 0, 1) := by decide +kernel
theorem dX11_asksDriver_19 : decode cX11_asksDriver 19 = .ok (.istore_n 1, 1) := by decide +kernel
theorem dX11_asksDriver_20 : decode cX11_asksDriver 20 = .ok (.iload_n 1, 1) := by decide +kernel
theorem dX11_asksDriver_21 : decode cX11_asksDriver 21 = .ok (.bipush 8, 2) := by decide +kernel
theorem dX11_asksDriver_23 : decode cX11_asksDriver 23 = .ok (.if_icmp .ge 36, 3) := by decide +kernel
theorem dX11_asksDriver_26 : decode cX11_asksDriver 26 = .ok (.aload_n 0, 1) := by decide +kernel
theorem dX11_asksDriver_27 : decode cX11_asksDriver 27 = .ok (.getfield 7, 3) := by decide +kernel
theorem dX11_asksDriver_30 : decode cX11_asksDriver 30 = .ok (.iconst 5, 1) := by decide +kernel
theorem dX11_asksDriver_31 : decode cX11_asksDriver 31 = .ok (.iload_n 1, 1) := by decide +kernel
theorem dX11_asksDriver_32 : decode cX11_asksDriver 32 = .ok (.iadd, 1) := by decide +kernel
theorem dX11_asksDriver_33 : decode cX11_asksDriver 33 = .ok (.aload_n 0, 1) := by decide +kernel
theorem dX11_asksDriver_34 : decode cX11_asksDriver 34 = .ok (.getfield 186, 3) := by decide +kernel
theorem dX11_asksDriver_37 : decode cX11_asksDriver 37 = .ok (.bipush 21, 2) := by decide +kernel
theorem dX11_asksDriver_39 : decode cX11_asksDriver 39 = .ok (.if_icmp .ne 12, 3) := by decide +kernel
theorem dX11_asksDriver_42 : decode cX11_asksDriver 42 = .ok (.aload_n 0, 1) := by decide +kernel
theorem dX11_asksDriver_43 : decode cX11_asksDriver 43 = .ok (.getfield 116, 3) := by decide +kernel
theorem dX11_asksDriver_46 : decode cX11_asksDriver 46 = .ok (.iload_n 1, 1) := by decide +kernel
theorem dX11_asksDriver_47 : decode cX11_asksDriver 47 = .ok (.iaload, 1) := by decide +kernel
theorem dX11_asksDriver_48 : decode cX11_asksDriver 48 = .ok (.goto 4, 3) := by decide +kernel
theorem dX11_asksDriver_51 : decode cX11_asksDriver 51 = .ok (.iconst 0, 1) := by decide +kernel
theorem dX11_asksDriver_52 : decode cX11_asksDriver 52 = .ok (.iastore, 1) := by decide +kernel
theorem dX11_asksDriver_53 : decode cX11_asksDriver 53 = .ok (.iinc 1 1, 3) := by decide +kernel
theorem dX11_asksDriver_56 : decode cX11_asksDriver 56 = .ok (.goto (-36), 3) := by decide +kernel
theorem dX11_asksDriver_59 : decode cX11_asksDriver 59 = .ok (.aload_n 0, 1) := by decide +kernel
theorem dX11_asksDriver_60 : decode cX11_asksDriver 60 = .ok (.iconst 2, 1) := by decide +kernel
theorem dX11_asksDriver_61 : decode cX11_asksDriver 61 = .ok (.iconst 1, 1) := by decide +kernel
theorem dX11_asksDriver_62 : decode cX11_asksDriver 62 = .ok (.invokevirtual 57, 3) := by decide +kernel
theorem dX11_asksDriver_65 : decode cX11_asksDriver 65 = .ok (.return_, 1) := by decide +kernel
theorem dX11_tells_0 : decode cX11_tells 0 = .ok (.aload_n 0, 1) := by decide +kernel
theorem dX11_tells_1 : decode cX11_tells 1 = .ok (.bipush 50, 2) := by decide +kernel
theorem dX11_tells_3 : decode cX11_tells 3 = .ok (.iload_n 3, 1) := by decide +kernel
theorem dX11_tells_4 : decode cX11_tells 4 = .ok (.iconst 0, 1) := by decide +kernel
theorem dX11_tells_5 : decode cX11_tells 5 = .ok (.invokevirtual 152, 3) := by decide +kernel
theorem dX11_tells_8 : decode cX11_tells 8 = .ok (.aload_n 0, 1) := by decide +kernel
theorem dX11_tells_9 : decode cX11_tells 9 = .ok (.iload_n 1, 1) := by decide +kernel
theorem dX11_tells_10 : decode cX11_tells 10 = .ok (.iload_n 2, 1) := by decide +kernel
theorem dX11_tells_11 : decode cX11_tells 11 = .ok (.invokevirtual 57, 3) := by decide +kernel
theorem dX11_tells_14 : decode cX11_tells 14 = .ok (.return_, 1) := by decide +kernel
theorem dX11_copies_0 : decode cX11_copies 0 = .ok (.iconst 0, 1) := by decide +kernel
theorem dX11_copies_1 : decode cX11_copies 1 = .ok (.istore_n 3, 1) := by decide +kernel
theorem dX11_copies_2 : decode cX11_copies 2 = .ok (.iload_n 3, 1) := by decide +kernel
theorem dX11_copies_3 : decode cX11_copies 3 = .ok (.iconst 4, 1) := by decide +kernel
theorem dX11_copies_4 : decode cX11_copies 4 = .ok (.if_icmp .ge 49, 3) := by decide +kernel
theorem dX11_copies_7 : decode cX11_copies 7 = .ok (.aload_n 0, 1) := by decide +kernel
theorem dX11_copies_8 : decode cX11_copies 8 = .ok (.getfield 92, 3) := by decide +kernel
theorem dX11_copies_11 : decode cX11_copies 11 = .ok (.iconst 4, 1) := by decide +kernel
theorem dX11_copies_12 : decode cX11_copies 12 = .ok (.iload_n 2, 1) := by decide +kernel
theorem dX11_copies_13 : decode cX11_copies 13 = .ok (.imul, 1) := by decide +kernel
theorem dX11_copies_14 : decode cX11_copies 14 = .ok (.iload_n 3, 1) := by decide +kernel
theorem dX11_copies_15 : decode cX11_copies 15 = .ok (.iadd, 1) := by decide +kernel
theorem dX11_copies_16 : decode cX11_copies 16 = .ok (.aload_n 0, 1) := by decide +kernel
theorem dX11_copies_17 : decode cX11_copies 17 = .ok (.getfield 92, 3) := by decide +kernel
theorem dX11_copies_20 : decode cX11_copies 20 = .ok (.iconst 4, 1) := by decide +kernel
theorem dX11_copies_21 : decode cX11_copies 21 = .ok (.iload_n 1, 1) := by decide +kernel
theorem dX11_copies_22 : decode cX11_copies 22 = .ok (.imul, 1) := by decide +kernel
theorem dX11_copies_23 : decode cX11_copies 23 = .ok (.iload_n 3, 1) := by decide +kernel
theorem dX11_copies_24 : decode cX11_copies 24 = .ok (.iadd, 1) := by decide +kernel
theorem dX11_copies_25 : decode cX11_copies 25 = .ok (.iaload, 1) := by decide +kernel
theorem dX11_copies_26 : decode cX11_copies 26 = .ok (.iastore, 1) := by decide +kernel
theorem dX11_copies_27 : decode cX11_copies 27 = .ok (.aload_n 0, 1) := by decide +kernel
theorem dX11_copies_28 : decode cX11_copies 28 = .ok (.getfield 95, 3) := by decide +kernel
theorem dX11_copies_31 : decode cX11_copies 31 = .ok (.iconst 4, 1) := by decide +kernel
theorem dX11_copies_32 : decode cX11_copies 32 = .ok (.iload_n 2, 1) := by decide +kernel
theorem dX11_copies_33 : decode cX11_copies 33 = .ok (.imul, 1) := by decide +kernel
theorem dX11_copies_34 : decode cX11_copies 34 = .ok (.iload_n 3, 1) := by decide +kernel
theorem dX11_copies_35 : decode cX11_copies 35 = .ok (.iadd, 1) := by decide +kernel
theorem dX11_copies_36 : decode cX11_copies 36 = .ok (.aload_n 0, 1) := by decide +kernel
theorem dX11_copies_37 : decode cX11_copies 37 = .ok (.getfield 95, 3) := by decide +kernel
theorem dX11_copies_40 : decode cX11_copies 40 = .ok (.iconst 4, 1) := by decide +kernel
theorem dX11_copies_41 : decode cX11_copies 41 = .ok (.iload_n 1, 1) := by decide +kernel
theorem dX11_copies_42 : decode cX11_copies 42 = .ok (.imul, 1) := by decide +kernel
theorem dX11_copies_43 : decode cX11_copies 43 = .ok (.iload_n 3, 1) := by decide +kernel
theorem dX11_copies_44 : decode cX11_copies 44 = .ok (.iadd, 1) := by decide +kernel
theorem dX11_copies_45 : decode cX11_copies 45 = .ok (.iaload, 1) := by decide +kernel
theorem dX11_copies_46 : decode cX11_copies 46 = .ok (.iastore, 1) := by decide +kernel
theorem dX11_copies_47 : decode cX11_copies 47 = .ok (.iinc 3 1, 3) := by decide +kernel
theorem dX11_copies_50 : decode cX11_copies 50 = .ok (.goto (-48), 3) := by decide +kernel
theorem dX11_copies_53 : decode cX11_copies 53 = .ok (.return_, 1) := by decide +kernel
theorem dX11_closesAll_0 : decode cX11_closesAll 0 = .ok (.iconst 0, 1) := by decide +kernel
theorem dX11_closesAll_1 : decode cX11_closesAll 1 = .ok (.istore_n 2, 1) := by decide +kernel
theorem dX11_closesAll_2 : decode cX11_closesAll 2 = .ok (.iload_n 2, 1) := by decide +kernel
theorem dX11_closesAll_3 : decode cX11_closesAll 3 = .ok (.iconst 4, 1) := by decide +kernel
theorem dX11_closesAll_4 : decode cX11_closesAll 4 = .ok (.if_icmp .ge 20, 3) := by decide +kernel
theorem dX11_closesAll_7 : decode cX11_closesAll 7 = .ok (.aload_n 0, 1) := by decide +kernel
theorem dX11_closesAll_8 : decode cX11_closesAll 8 = .ok (.getfield 92, 3) := by decide +kernel
theorem dX11_closesAll_11 : decode cX11_closesAll 11 = .ok (.iconst 4, 1) := by decide +kernel
theorem dX11_closesAll_12 : decode cX11_closesAll 12 = .ok (.iload_n 1, 1) := by decide +kernel
theorem dX11_closesAll_13 : decode cX11_closesAll 13 = .ok (.imul, 1) := by decide +kernel
theorem dX11_closesAll_14 : decode cX11_closesAll 14 = .ok (.iload_n 2, 1) := by decide +kernel
theorem dX11_closesAll_15 : decode cX11_closesAll 15 = .ok (.iadd, 1) := by decide +kernel
theorem dX11_closesAll_16 : decode cX11_closesAll 16 = .ok (.iconst (-1), 1) := by decide +kernel
theorem dX11_closesAll_17 : decode cX11_closesAll 17 = .ok (.iastore, 1) := by decide +kernel
theorem dX11_closesAll_18 : decode cX11_closesAll 18 = .ok (.iinc 2 1, 3) := by decide +kernel
theorem dX11_closesAll_21 : decode cX11_closesAll 21 = .ok (.goto (-19), 3) := by decide +kernel
theorem dX11_closesAll_24 : decode cX11_closesAll 24 = .ok (.return_, 1) := by decide +kernel
theorem dX11_begins_0 : decode cX11_begins 0 = .ok (.iload_n 2, 1) := by decide +kernel
theorem dX11_begins_1 : decode cX11_begins 1 = .ok (.iconst 1, 1) := by decide +kernel
theorem dX11_begins_2 : decode cX11_begins 2 = .ok (.if_icmp .ne 16, 3) := by decide +kernel
theorem dX11_begins_5 : decode cX11_begins 5 = .ok (.aload_n 0, 1) := by decide +kernel
theorem dX11_begins_6 : decode cX11_begins 6 = .ok (.iconst 2, 1) := by decide +kernel
theorem dX11_begins_7 : decode cX11_begins 7 = .ok (.iload_n 1, 1) := by decide +kernel
theorem dX11_begins_8 : decode cX11_begins 8 = .ok (.aload_n 0, 1) := by decide +kernel
theorem dX11_begins_9 : decode cX11_begins 9 = .ok (.iload_n 1, 1) := by decide +kernel
theorem dX11_begins_10 : decode cX11_begins 10 = .ok (.iload_n 3, 1) := by decide +kernel
theorem dX11_begins_11 : decode cX11_begins 11 = .ok (.invokevirtual 192, 3) := by decide +kernel
theorem dX11_begins_14 : decode cX11_begins 14 = .ok (.invokevirtual 196, 3) := by decide +kernel
theorem dX11_begins_17 : decode cX11_begins 17 = .ok (.return_, 1) := by decide +kernel
theorem dX11_begins_18 : decode cX11_begins 18 = .ok (.iload_n 2, 1) := by decide +kernel
theorem dX11_begins_19 : decode cX11_begins 19 = .ok (.bipush 6, 2) := by decide +kernel
theorem dX11_begins_21 : decode cX11_begins 21 = .ok (.if_icmp .ne 15, 3) := by decide +kernel
theorem dX11_begins_24 : decode cX11_begins 24 = .ok (.aload_n 0, 1) := by decide +kernel
theorem dX11_begins_25 : decode cX11_begins 25 = .ok (.iconst 2, 1) := by decide +kernel
theorem dX11_begins_26 : decode cX11_begins 26 = .ok (.iload_n 1, 1) := by decide +kernel
theorem dX11_begins_27 : decode cX11_begins 27 = .ok (.aload_n 0, 1) := by decide +kernel
theorem dX11_begins_28 : decode cX11_begins 28 = .ok (.iload_n 3, 1) := by decide +kernel
theorem dX11_begins_29 : decode cX11_begins 29 = .ok (.invokevirtual 199, 3) := by decide +kernel
theorem dX11_begins_32 : decode cX11_begins 32 = .ok (.invokevirtual 196, 3) := by decide +kernel
theorem dX11_begins_35 : decode cX11_begins 35 = .ok (.return_, 1) := by decide +kernel
theorem dX11_begins_36 : decode cX11_begins 36 = .ok (.iload_n 3, 1) := by decide +kernel
theorem dX11_begins_37 : decode cX11_begins 37 = .ok (.ifCond .lt 21, 3) := by decide +kernel
theorem dX11_begins_40 : decode cX11_begins 40 = .ok (.iload_n 3, 1) := by decide +kernel
theorem dX11_begins_41 : decode cX11_begins 41 = .ok (.iconst 3, 1) := by decide +kernel
theorem dX11_begins_42 : decode cX11_begins 42 = .ok (.if_icmp .gt 16, 3) := by decide +kernel
theorem dX11_begins_45 : decode cX11_begins 45 = .ok (.aload_n 0, 1) := by decide +kernel
theorem dX11_begins_46 : decode cX11_begins 46 = .ok (.getfield 92, 3) := by decide +kernel
theorem dX11_begins_49 : decode cX11_begins 49 = .ok (.iconst 4, 1) := by decide +kernel
theorem dX11_begins_50 : decode cX11_begins 50 = .ok (.iload_n 1, 1) := by decide +kernel
theorem dX11_begins_51 : decode cX11_begins 51 = .ok (.imul, 1) := by decide +kernel
theorem dX11_begins_52 : decode cX11_begins 52 = .ok (.iload_n 3, 1) := by decide +kernel
theorem dX11_begins_53 : decode cX11_begins 53 = .ok (.iadd, 1) := by decide +kernel
theorem dX11_begins_54 : decode cX11_begins 54 = .ok (.iaload, 1) := by decide +kernel
theorem dX11_begins_55 : decode cX11_begins 55 = .ok (.ifCond .ge 12, 3) := by decide +kernel
theorem dX11_begins_58 : decode cX11_begins 58 = .ok (.aload_n 0, 1) := by decide +kernel
theorem dX11_begins_59 : decode cX11_begins 59 = .ok (.iconst 2, 1) := by decide +kernel
theorem dX11_begins_60 : decode cX11_begins 60 = .ok (.iload_n 1, 1) := by decide +kernel
theorem dX11_begins_61 : decode cX11_begins 61 = .ok (.bipush (-8), 2) := by decide +kernel
theorem dX11_begins_63 : decode cX11_begins 63 = .ok (.invokevirtual 196, 3) := by decide +kernel
theorem dX11_begins_66 : decode cX11_begins 66 = .ok (.return_, 1) := by decide +kernel
theorem dX11_begins_67 : decode cX11_begins 67 = .ok (.iconst 4, 1) := by decide +kernel
theorem dX11_begins_68 : decode cX11_begins 68 = .ok (.iload_n 1, 1) := by decide +kernel
theorem dX11_begins_69 : decode cX11_begins 69 = .ok (.imul, 1) := by decide +kernel
theorem dX11_begins_70 : decode cX11_begins 70 = .ok (.iload_n 3, 1) := by decide +kernel
theorem dX11_begins_71 : decode cX11_begins 71 = .ok (.iadd, 1) := by decide +kernel
theorem dX11_begins_72 : decode cX11_begins 72 = .ok (.istore 5, 2) := by decide +kernel
theorem dX11_begins_74 : decode cX11_begins 74 = .ok (.aload_n 0, 1) := by decide +kernel
theorem dX11_begins_75 : decode cX11_begins 75 = .ok (.getfield 92, 3) := by decide +kernel
theorem dX11_begins_78 : decode cX11_begins 78 = .ok (.iload 5, 2) := by decide +kernel
theorem dX11_begins_80 : decode cX11_begins 80 = .ok (.iaload, 1) := by decide +kernel
theorem dX11_begins_81 : decode cX11_begins 81 = .ok (.istore 6, 2) := by decide +kernel
theorem dX11_begins_83 : decode cX11_begins 83 = .ok (.iload_n 2, 1) := by decide +kernel
theorem dX11_begins_84 : decode cX11_begins 84 = .ok (.iconst 2, 1) := by decide +kernel
theorem dX11_begins_85 : decode cX11_begins 85 = .ok (.if_icmp .ne 21, 3) := by decide +kernel
theorem dX11_begins_88 : decode cX11_begins 88 = .ok (.aload_n 0, 1) := by decide +kernel
theorem dX11_begins_89 : decode cX11_begins 89 = .ok (.getfield 92, 3) := by decide +kernel
theorem dX11_begins_92 : decode cX11_begins 92 = .ok (.iload 5, 2) := by decide +kernel
theorem dX11_begins_94 : decode cX11_begins 94 = .ok (.iconst (-1), 1) := by decide +kernel
theorem dX11_begins_95 : decode cX11_begins 95 = .ok (.iastore, 1) := by decide +kernel
theorem dX11_begins_96 : decode cX11_begins 96 = .ok (.aload_n 0, 1) := by decide +kernel
theorem dX11_begins_97 : decode cX11_begins 97 = .ok (.iconst 2, 1) := by decide +kernel
theorem dX11_begins_98 : decode cX11_begins 98 = .ok (.iload_n 1, 1) := by decide +kernel
theorem dX11_begins_99 : decode cX11_begins 99 = .ok (.iconst 0, 1) := by decide +kernel
theorem dX11_begins_100 : decode cX11_begins 100 = .ok (.invokevirtual 196, 3) := by decide +kernel
theorem dX11_begins_103 : decode cX11_begins 103 = .ok (.goto 124, 3) := by decide +kernel
theorem dX11_begins_106 : decode cX11_begins 106 = .ok (.iload_n 2, 1) := by decide +kernel
theorem dX11_begins_107 : decode cX11_begins 107 = .ok (.iconst 3, 1) := by decide +kernel
theorem dX11_begins_108 : decode cX11_begins 108 = .ok (.if_icmp .ne 15, 3) := by decide +kernel
theorem dX11_begins_111 : decode cX11_begins 111 = .ok (.aload_n 0, 1) := by decide +kernel
theorem dX11_begins_112 : decode cX11_begins 112 = .ok (.iload_n 1, 1) := by decide +kernel
theorem dX11_begins_113 : decode cX11_begins 113 = .ok (.iload 5, 2) := by decide +kernel
theorem dX11_begins_115 : decode cX11_begins 115 = .ok (.iload 6, 2) := by decide +kernel
theorem dX11_begins_117 : decode cX11_begins 117 = .ok (.invokevirtual 203, 3) := by decide +kernel
theorem dX11_begins_120 : decode cX11_begins 120 = .ok (.goto 107, 3) := by decide +kernel
theorem dX11_begins_123 : decode cX11_begins 123 = .ok (.iload_n 2, 1) := by decide +kernel
theorem dX11_begins_124 : decode cX11_begins 124 = .ok (.iconst 4, 1) := by decide +kernel
theorem dX11_begins_125 : decode cX11_begins 125 = .ok (.if_icmp .ne 17, 3) := by decide +kernel
theorem dX11_begins_128 : decode cX11_begins 128 = .ok (.aload_n 0, 1) := by decide +kernel
theorem dX11_begins_129 : decode cX11_begins 129 = .ok (.iload_n 1, 1) := by decide +kernel
theorem dX11_begins_130 : decode cX11_begins 130 = .ok (.iload 5, 2) := by decide +kernel
theorem dX11_begins_132 : decode cX11_begins 132 = .ok (.iload 6, 2) := by decide +kernel
theorem dX11_begins_134 : decode cX11_begins 134 = .ok (.iload 4, 2) := by decide +kernel
theorem dX11_begins_136 : decode cX11_begins 136 = .ok (.invokevirtual 206, 3) := by decide +kernel
theorem dX11_begins_139 : decode cX11_begins 139 = .ok (.goto 88, 3) := by decide +kernel
theorem dX11_begins_142 : decode cX11_begins 142 = .ok (.iload_n 2, 1) := by decide +kernel
theorem dX11_begins_143 : decode cX11_begins 143 = .ok (.iconst 5, 1) := by decide +kernel
theorem dX11_begins_144 : decode cX11_begins 144 = .ok (.if_icmp .ne 70, 3) := by decide +kernel
theorem dX11_begins_147 : decode cX11_begins 147 = .ok (.iload 4, 2) := by decide +kernel
theorem dX11_begins_149 : decode cX11_begins 149 = .ok (.ifCond .lt 19, 3) := by decide +kernel
theorem dX11_begins_152 : decode cX11_begins 152 = .ok (.iload 4, 2) := by decide +kernel
theorem dX11_begins_154 : decode cX11_begins 154 = .ok (.aload_n 0, 1) := by decide +kernel
theorem dX11_begins_155 : decode cX11_begins 155 = .ok (.getfield 101, 3) := by decide +kernel
theorem dX11_begins_158 : decode cX11_begins 158 = .ok (.iload 6, 2) := by decide +kernel
theorem dX11_begins_160 : decode cX11_begins 160 = .ok (.iaload, 1) := by decide +kernel
theorem dX11_begins_161 : decode cX11_begins 161 = .ok (.if_icmp .gt 7, 3) := by decide +kernel
theorem dX11_begins_164 : decode cX11_begins 164 = .ok (.iconst 1, 1) := by decide +kernel
theorem dX11_begins_165 : decode cX11_begins 165 = .ok (.goto 4, 3) := by decide +kernel
theorem dX11_begins_168 : decode cX11_begins 168 = .ok (.iconst 0, 1) := by decide +kernel
theorem dX11_begins_169 : decode cX11_begins 169 = .ok (.istore 7, 2) := by decide +kernel
theorem dX11_begins_171 : decode cX11_begins 171 = .ok (.aload_n 0, 1) := by decide +kernel
theorem dX11_begins_172 : decode cX11_begins 172 = .ok (.getfield 95, 3) := by decide +kernel
theorem dX11_begins_175 : decode cX11_begins 175 = .ok (.iload 5, 2) := by decide +kernel
theorem dX11_begins_177 : decode cX11_begins 177 = .ok (.iload 7, 2) := by decide +kernel
theorem dX11_begins_179 : decode cX11_begins 179 = .ok (.ifCond .eq 8, 3) := by decide +kernel
theorem dX11_begins_182 : decode cX11_begins 182 = .ok (.iload 4, 2) := by decide +kernel
theorem dX11_begins_184 : decode cX11_begins 184 = .ok (.goto 10, 3) := by decide +kernel
theorem dX11_begins_187 : decode cX11_begins 187 = .ok (.aload_n 0, 1) := by decide +kernel
theorem dX11_begins_188 : decode cX11_begins 188 = .ok (.getfield 95, 3) := by decide +kernel
theorem dX11_begins_191 : decode cX11_begins 191 = .ok (.iload 5, 2) := by decide +kernel
theorem dX11_begins_193 : decode cX11_begins 193 = .ok (.iaload, 1) := by decide +kernel
theorem dX11_begins_194 : decode cX11_begins 194 = .ok (.iastore, 1) := by decide +kernel
theorem dX11_begins_195 : decode cX11_begins 195 = .ok (.aload_n 0, 1) := by decide +kernel
theorem dX11_begins_196 : decode cX11_begins 196 = .ok (.iconst 2, 1) := by decide +kernel
theorem dX11_begins_197 : decode cX11_begins 197 = .ok (.iload_n 1, 1) := by decide +kernel
theorem dX11_begins_198 : decode cX11_begins 198 = .ok (.iload 7, 2) := by decide +kernel
theorem dX11_begins_200 : decode cX11_begins 200 = .ok (.ifCond .eq 7, 3) := by decide +kernel
theorem dX11_begins_203 : decode cX11_begins 203 = .ok (.iconst 0, 1) := by decide +kernel
theorem dX11_begins_204 : decode cX11_begins 204 = .ok (.goto 4, 3) := by decide +kernel
theorem dX11_begins_207 : decode cX11_begins 207 = .ok (.iconst (-1), 1) := by decide +kernel
theorem dX11_begins_208 : decode cX11_begins 208 = .ok (.invokevirtual 196, 3) := by decide +kernel
theorem dX11_begins_211 : decode cX11_begins 211 = .ok (.goto 16, 3) := by decide +kernel
theorem dX11_begins_214 : decode cX11_begins 214 = .ok (.aload_n 0, 1) := by decide +kernel
theorem dX11_begins_215 : decode cX11_begins 215 = .ok (.iconst 2, 1) := by decide +kernel
theorem dX11_begins_216 : decode cX11_begins 216 = .ok (.iload_n 1, 1) := by decide +kernel
theorem dX11_begins_217 : decode cX11_begins 217 = .ok (.aload_n 0, 1) := by decide +kernel
theorem dX11_begins_218 : decode cX11_begins 218 = .ok (.getfield 101, 3) := by decide +kernel
theorem dX11_begins_221 : decode cX11_begins 221 = .ok (.iload 6, 2) := by decide +kernel
theorem dX11_begins_223 : decode cX11_begins 223 = .ok (.iaload, 1) := by decide +kernel
theorem dX11_begins_224 : decode cX11_begins 224 = .ok (.invokevirtual 196, 3) := by decide +kernel
theorem dX11_begins_227 : decode cX11_begins 227 = .ok (.return_, 1) := by decide +kernel
theorem dX11_opens_0 : decode cX11_opens 0 = .ok (.iload_n 2, 1) := by decide +kernel
theorem dX11_opens_1 : decode cX11_opens 1 = .ok (.ifCond .lt 9, 3) := by decide +kernel
theorem dX11_opens_4 : decode cX11_opens 4 = .ok (.iload_n 2, 1) := by decide +kernel
theorem dX11_opens_5 : decode cX11_opens 5 = .ok (.bipush 15, 2) := by decide +kernel
theorem dX11_opens_7 : decode cX11_opens 7 = .ok (.if_icmp .le 5, 3) := by decide +kernel
theorem dX11_opens_10 : decode cX11_opens 10 = .ok (.iconst (-1), 1) := by decide +kernel
theorem dX11_opens_11 : decode cX11_opens 11 = .ok (.ireturn, 1) := by decide +kernel
theorem dX11_opens_12 : decode cX11_opens 12 = .ok (.iconst 0, 1) := by decide +kernel
theorem dX11_opens_13 : decode cX11_opens 13 = .ok (.istore_n 3, 1) := by decide +kernel
theorem dX11_opens_14 : decode cX11_opens 14 = .ok (.iload_n 3, 1) := by decide +kernel
theorem dX11_opens_15 : decode cX11_opens 15 = .ok (.iconst 4, 1) := by decide +kernel
theorem dX11_opens_16 : decode cX11_opens 16 = .ok (.if_icmp .ge 22, 3) := by decide +kernel
theorem dX11_opens_19 : decode cX11_opens 19 = .ok (.aload_n 0, 1) := by decide +kernel
theorem dX11_opens_20 : decode cX11_opens 20 = .ok (.getfield 92, 3) := by decide +kernel
theorem dX11_opens_23 : decode cX11_opens 23 = .ok (.iconst 4, 1) := by decide +kernel
theorem dX11_opens_24 : decode cX11_opens 24 = .ok (.iload_n 1, 1) := by decide +kernel
theorem dX11_opens_25 : decode cX11_opens 25 = .ok (.imul, 1) := by decide +kernel
theorem dX11_opens_26 : decode cX11_opens 26 = .ok (.iload_n 3, 1) := by decide +kernel
theorem dX11_opens_27 : decode cX11_opens 27 = .ok (.iadd, 1) := by decide +kernel
theorem dX11_opens_28 : decode cX11_opens 28 = .ok (.iaload, 1) := by decide +kernel
theorem dX11_opens_29 : decode cX11_opens 29 = .ok (.ifCond .lt 9, 3) := by decide +kernel
theorem dX11_opens_32 : decode cX11_opens 32 = .ok (.iinc 3 1, 3) := by decide +kernel
theorem dX11_opens_35 : decode cX11_opens 35 = .ok (.goto (-21), 3) := by decide +kernel
theorem dX11_opens_38 : decode cX11_opens 38 = .ok (.iload_n 3, 1) := by decide +kernel
theorem dX11_opens_39 : decode cX11_opens 39 = .ok (.iconst 4, 1) := by decide +kernel
theorem dX11_opens_40 : decode cX11_opens 40 = .ok (.if_icmp .ne 6, 3) := by decide +kernel
theorem dX11_opens_43 : decode cX11_opens 43 = .ok (.bipush (-2), 2) := by decide +kernel
theorem dX11_opens_45 : decode cX11_opens 45 = .ok (.ireturn, 1) := by decide +kernel
theorem dX11_opens_46 : decode cX11_opens 46 = .ok (.aload_n 0, 1) := by decide +kernel
theorem dX11_opens_47 : decode cX11_opens 47 = .ok (.getfield 98, 3) := by decide +kernel
theorem dX11_opens_50 : decode cX11_opens 50 = .ok (.iload_n 2, 1) := by decide +kernel
theorem dX11_opens_51 : decode cX11_opens 51 = .ok (.baload, 1) := by decide +kernel
theorem dX11_opens_52 : decode cX11_opens 52 = .ok (.ifCond .ne 29, 3) := by decide +kernel
theorem dX11_opens_55 : decode cX11_opens 55 = .ok (.aload_n 0, 1) := by decide +kernel
theorem dX11_opens_56 : decode cX11_opens 56 = .ok (.invokevirtual 209, 3) := by decide +kernel
theorem dX11_opens_59 : decode cX11_opens 59 = .ok (.bipush 8, 2) := by decide +kernel
theorem dX11_opens_61 : decode cX11_opens 61 = .ok (.if_icmp .ne 6, 3) := by decide +kernel
theorem dX11_opens_64 : decode cX11_opens 64 = .ok (.bipush (-3), 2) := by decide +kernel
theorem dX11_opens_66 : decode cX11_opens 66 = .ok (.ireturn, 1) := by decide +kernel
theorem dX11_opens_67 : decode cX11_opens 67 = .ok (.aload_n 0, 1) := by decide +kernel
theorem dX11_opens_68 : decode cX11_opens 68 = .ok (.getfield 98, 3) := by decide +kernel
theorem dX11_opens_71 : decode cX11_opens 71 = .ok (.iload_n 2, 1) := by decide +kernel
theorem dX11_opens_72 : decode cX11_opens 72 = .ok (.iconst 1, 1) := by decide +kernel
theorem dX11_opens_73 : decode cX11_opens 73 = .ok (.bastore, 1) := by decide +kernel
theorem dX11_opens_74 : decode cX11_opens 74 = .ok (.aload_n 0, 1) := by decide +kernel
theorem dX11_opens_75 : decode cX11_opens 75 = .ok (.getfield 101, 3) := by decide +kernel
theorem dX11_opens_78 : decode cX11_opens 78 = .ok (.iload_n 2, 1) := by decide +kernel
theorem dX11_opens_79 : decode cX11_opens 79 = .ok (.iconst 0, 1) := by decide +kernel
theorem dX11_opens_80 : decode cX11_opens 80 = .ok (.iastore, 1) := by decide +kernel
theorem dX11_opens_81 : decode cX11_opens 81 = .ok (.aload_n 0, 1) := by decide +kernel
theorem dX11_opens_82 : decode cX11_opens 82 = .ok (.getfield 92, 3) := by decide +kernel
theorem dX11_opens_85 : decode cX11_opens 85 = .ok (.iconst 4, 1) := by decide +kernel
theorem dX11_opens_86 : decode cX11_opens 86 = .ok (.iload_n 1, 1) := by decide +kernel
theorem dX11_opens_87 : decode cX11_opens 87 = .ok (.imul, 1) := by decide +kernel
theorem dX11_opens_88 : decode cX11_opens 88 = .ok (.iload_n 3, 1) := by decide +kernel
theorem dX11_opens_89 : decode cX11_opens 89 = .ok (.iadd, 1) := by decide +kernel
theorem dX11_opens_90 : decode cX11_opens 90 = .ok (.iload_n 2, 1) := by decide +kernel
theorem dX11_opens_91 : decode cX11_opens 91 = .ok (.iastore, 1) := by decide +kernel
theorem dX11_opens_92 : decode cX11_opens 92 = .ok (.aload_n 0, 1) := by decide +kernel
theorem dX11_opens_93 : decode cX11_opens 93 = .ok (.getfield 95, 3) := by decide +kernel
theorem dX11_opens_96 : decode cX11_opens 96 = .ok (.iconst 4, 1) := by decide +kernel
theorem dX11_opens_97 : decode cX11_opens 97 = .ok (.iload_n 1, 1) := by decide +kernel
theorem dX11_opens_98 : decode cX11_opens 98 = .ok (.imul, 1) := by decide +kernel
theorem dX11_opens_99 : decode cX11_opens 99 = .ok (.iload_n 3, 1) := by decide +kernel
theorem dX11_opens_100 : decode cX11_opens 100 = .ok (.iadd, 1) := by decide +kernel
theorem dX11_opens_101 : decode cX11_opens 101 = .ok (.iconst 0, 1) := by decide +kernel
theorem dX11_opens_102 : decode cX11_opens 102 = .ok (.iastore, 1) := by decide +kernel
theorem dX11_opens_103 : decode cX11_opens 103 = .ok (.iload_n 3, 1) := by decide +kernel
theorem dX11_opens_104 : decode cX11_opens 104 = .ok (.ireturn, 1) := by decide +kernel
theorem dX11_filesThere_0 : decode cX11_filesThere 0 = .ok (.iconst 0, 1) := by decide +kernel
theorem dX11_filesThere_1 : decode cX11_filesThere 1 = .ok (.istore_n 1, 1) := by decide +kernel
theorem dX11_filesThere_2 : decode cX11_filesThere 2 = .ok (.iconst 0, 1) := by decide +kernel
theorem dX11_filesThere_3 : decode cX11_filesThere 3 = .ok (.istore_n 2, 1) := by decide +kernel
theorem dX11_filesThere_4 : decode cX11_filesThere 4 = .ok (.iload_n 2, 1) := by decide +kernel
theorem dX11_filesThere_5 : decode cX11_filesThere 5 = .ok (.bipush 16, 2) := by decide +kernel
theorem dX11_filesThere_7 : decode cX11_filesThere 7 = .ok (.if_icmp .ge 26, 3) := by decide +kernel
theorem dX11_filesThere_10 : decode cX11_filesThere 10 = .ok (.iload_n 1, 1) := by decide +kernel
theorem dX11_filesThere_11 : decode cX11_filesThere 11 = .ok (.aload_n 0, 1) := by decide +kernel
theorem dX11_filesThere_12 : decode cX11_filesThere 12 = .ok (.getfield 98, 3) := by decide +kernel
theorem dX11_filesThere_15 : decode cX11_filesThere 15 = .ok (.iload_n 2, 1) := by decide +kernel
theorem dX11_filesThere_16 : decode cX11_filesThere 16 = .ok (.baload, 1) := by decide +kernel
theorem dX11_filesThere_17 : decode cX11_filesThere 17 = .ok (.ifCond .eq 7, 3) := by decide +kernel
theorem dX11_filesThere_20 : decode cX11_filesThere 20 = .ok (.iconst 1, 1) := by decide +kernel
theorem dX11_filesThere_21 : decode cX11_filesThere 21 = .ok (.goto 4, 3) := by decide +kernel
theorem dX11_filesThere_24 : decode cX11_filesThere 24 = .ok (.iconst 0, 1) := by decide +kernel
theorem dX11_filesThere_25 : decode cX11_filesThere 25 = .ok (.iadd, 1) := by decide +kernel
theorem dX11_filesThere_26 : decode cX11_filesThere 26 = .ok (.istore_n 1, 1) := by decide +kernel
theorem dX11_filesThere_27 : decode cX11_filesThere 27 = .ok (.iinc 2 1, 3) := by decide +kernel
theorem dX11_filesThere_30 : decode cX11_filesThere 30 = .ok (.goto (-26), 3) := by decide +kernel
theorem dX11_filesThere_33 : decode cX11_filesThere 33 = .ok (.iload_n 1, 1) := by decide +kernel
theorem dX11_filesThere_34 : decode cX11_filesThere 34 = .ok (.ireturn, 1) := by decide +kernel
theorem dX11_removes_0 : decode cX11_removes 0 = .ok (.iload_n 1, 1) := by decide +kernel
theorem dX11_removes_1 : decode cX11_removes 1 = .ok (.ifCond .lt 18, 3) := by decide +kernel
theorem dX11_removes_4 : decode cX11_removes 4 = .ok (.iload_n 1, 1) := by decide +kernel
theorem dX11_removes_5 : decode cX11_removes 5 = .ok (.bipush 15, 2) := by decide +kernel
theorem dX11_removes_7 : decode cX11_removes 7 = .ok (.if_icmp .gt 12, 3) := by decide +kernel
theorem dX11_removes_10 : decode cX11_removes 10 = .ok (.aload_n 0, 1) := by decide +kernel
theorem dX11_removes_11 : decode cX11_removes 11 = .ok (.getfield 98, 3) := by decide +kernel
theorem dX11_removes_14 : decode cX11_removes 14 = .ok (.iload_n 1, 1) := by decide +kernel
theorem dX11_removes_15 : decode cX11_removes 15 = .ok (.baload, 1) := by decide +kernel
theorem dX11_removes_16 : decode cX11_removes 16 = .ok (.ifCond .ne 5, 3) := by decide +kernel
theorem dX11_removes_19 : decode cX11_removes 19 = .ok (.iconst (-1), 1) := by decide +kernel
theorem dX11_removes_20 : decode cX11_removes 20 = .ok (.ireturn, 1) := by decide +kernel
theorem dX11_removes_21 : decode cX11_removes 21 = .ok (.iconst 0, 1) := by decide +kernel
theorem dX11_removes_22 : decode cX11_removes 22 = .ok (.istore_n 2, 1) := by decide +kernel
theorem dX11_removes_23 : decode cX11_removes 23 = .ok (.iload_n 2, 1) := by decide +kernel
theorem dX11_removes_24 : decode cX11_removes 24 = .ok (.bipush 48, 2) := by decide +kernel
theorem dX11_removes_26 : decode cX11_removes 26 = .ok (.if_icmp .ge 22, 3) := by decide +kernel
theorem dX11_removes_29 : decode cX11_removes 29 = .ok (.aload_n 0, 1) := by decide +kernel
theorem dX11_removes_30 : decode cX11_removes 30 = .ok (.getfield 92, 3) := by decide +kernel
theorem dX11_removes_33 : decode cX11_removes 33 = .ok (.iload_n 2, 1) := by decide +kernel
theorem dX11_removes_34 : decode cX11_removes 34 = .ok (.iaload, 1) := by decide +kernel
theorem dX11_removes_35 : decode cX11_removes 35 = .ok (.iload_n 1, 1) := by decide +kernel
theorem dX11_removes_36 : decode cX11_removes 36 = .ok (.if_icmp .ne 6, 3) := by decide +kernel
theorem dX11_removes_39 : decode cX11_removes 39 = .ok (.bipush (-7), 2) := by decide +kernel
theorem dX11_removes_41 : decode cX11_removes 41 = .ok (.ireturn, 1) := by decide +kernel
theorem dX11_removes_42 : decode cX11_removes 42 = .ok (.iinc 2 1, 3) := by decide +kernel
theorem dX11_removes_45 : decode cX11_removes 45 = .ok (.goto (-22), 3) := by decide +kernel
theorem dX11_removes_48 : decode cX11_removes 48 = .ok (.aload_n 0, 1) := by decide +kernel
theorem dX11_removes_49 : decode cX11_removes 49 = .ok (.getfield 98, 3) := by decide +kernel
theorem dX11_removes_52 : decode cX11_removes 52 = .ok (.iload_n 1, 1) := by decide +kernel
theorem dX11_removes_53 : decode cX11_removes 53 = .ok (.iconst 0, 1) := by decide +kernel
theorem dX11_removes_54 : decode cX11_removes 54 = .ok (.bastore, 1) := by decide +kernel
theorem dX11_removes_55 : decode cX11_removes 55 = .ok (.iconst 4, 1) := by decide +kernel
theorem dX11_removes_56 : decode cX11_removes 56 = .ok (.iload_n 1, 1) := by decide +kernel
theorem dX11_removes_57 : decode cX11_removes 57 = .ok (.imul, 1) := by decide +kernel
theorem dX11_removes_58 : decode cX11_removes 58 = .ok (.istore_n 2, 1) := by decide +kernel
theorem dX11_removes_59 : decode cX11_removes 59 = .ok (.iload_n 2, 1) := by decide +kernel
theorem dX11_removes_60 : decode cX11_removes 60 = .ok (.iconst 4, 1) := by decide +kernel
theorem dX11_removes_61 : decode cX11_removes 61 = .ok (.iload_n 1, 1) := by decide +kernel
theorem dX11_removes_62 : decode cX11_removes 62 = .ok (.imul, 1) := by decide +kernel
theorem dX11_removes_63 : decode cX11_removes 63 = .ok (.iconst 4, 1) := by decide +kernel
theorem dX11_removes_64 : decode cX11_removes 64 = .ok (.iadd, 1) := by decide +kernel
theorem dX11_removes_65 : decode cX11_removes 65 = .ok (.if_icmp .ge 37, 3) := by decide +kernel
theorem dX11_removes_68 : decode cX11_removes 68 = .ok (.aload_n 0, 1) := by decide +kernel
theorem dX11_removes_69 : decode cX11_removes 69 = .ok (.getfield 104, 3) := by decide +kernel
theorem dX11_removes_72 : decode cX11_removes 72 = .ok (.iload_n 2, 1) := by decide +kernel
theorem dX11_removes_73 : decode cX11_removes 73 = .ok (.iaload, 1) := by decide +kernel
theorem dX11_removes_74 : decode cX11_removes 74 = .ok (.ifCond .lt 22, 3) := by decide +kernel
theorem dX11_removes_77 : decode cX11_removes 77 = .ok (.aload_n 0, 1) := by decide +kernel
theorem dX11_removes_78 : decode cX11_removes 78 = .ok (.getfield 107, 3) := by decide +kernel
theorem dX11_removes_81 : decode cX11_removes 81 = .ok (.aload_n 0, 1) := by decide +kernel
theorem dX11_removes_82 : decode cX11_removes 82 = .ok (.getfield 104, 3) := by decide +kernel
theorem dX11_removes_85 : decode cX11_removes 85 = .ok (.iload_n 2, 1) := by decide +kernel
theorem dX11_removes_86 : decode cX11_removes 86 = .ok (.iaload, 1) := by decide +kernel
theorem dX11_removes_87 : decode cX11_removes 87 = .ok (.iconst 0, 1) := by decide +kernel
theorem dX11_removes_88 : decode cX11_removes 88 = .ok (.bastore, 1) := by decide +kernel
theorem dX11_removes_89 : decode cX11_removes 89 = .ok (.aload_n 0, 1) := by decide +kernel
theorem dX11_removes_90 : decode cX11_removes 90 = .ok (.getfield 104, 3) := by decide +kernel
theorem dX11_removes_93 : decode cX11_removes 93 = .ok (.iload_n 2, 1) := by decide +kernel
theorem dX11_removes_94 : decode cX11_removes 94 = .ok (.iconst (-1), 1) := by decide +kernel
theorem dX11_removes_95 : decode cX11_removes 95 = .ok (.iastore, 1) := by decide +kernel
theorem dX11_removes_96 : decode cX11_removes 96 = .ok (.iinc 2 1, 3) := by decide +kernel
theorem dX11_removes_99 : decode cX11_removes 99 = .ok (.goto (-40), 3) := by decide +kernel
theorem dX11_removes_102 : decode cX11_removes 102 = .ok (.iconst 0, 1) := by decide +kernel
theorem dX11_removes_103 : decode cX11_removes 103 = .ok (.ireturn, 1) := by decide +kernel
theorem dX11_reads_0 : decode cX11_reads 0 = .ok (.aload_n 0, 1) := by decide +kernel
theorem dX11_reads_1 : decode cX11_reads 1 = .ok (.getfield 95, 3) := by decide +kernel
theorem dX11_reads_4 : decode cX11_reads 4 = .ok (.iload_n 2, 1) := by decide +kernel
theorem dX11_reads_5 : decode cX11_reads 5 = .ok (.iaload, 1) := by decide +kernel
theorem dX11_reads_6 : decode cX11_reads 6 = .ok (.istore 4, 2) := by decide +kernel
theorem dX11_reads_8 : decode cX11_reads 8 = .ok (.iload 4, 2) := by decide +kernel
theorem dX11_reads_10 : decode cX11_reads 10 = .ok (.aload_n 0, 1) := by decide +kernel
theorem dX11_reads_11 : decode cX11_reads 11 = .ok (.getfield 101, 3) := by decide +kernel
theorem dX11_reads_14 : decode cX11_reads 14 = .ok (.iload_n 3, 1) := by decide +kernel
theorem dX11_reads_15 : decode cX11_reads 15 = .ok (.iaload, 1) := by decide +kernel
theorem dX11_reads_16 : decode cX11_reads 16 = .ok (.if_icmp .ne 12, 3) := by decide +kernel
theorem dX11_reads_19 : decode cX11_reads 19 = .ok (.aload_n 0, 1) := by decide +kernel
theorem dX11_reads_20 : decode cX11_reads 20 = .ok (.iconst 2, 1) := by decide +kernel
theorem dX11_reads_21 : decode cX11_reads 21 = .ok (.iload_n 1, 1) := by decide +kernel
theorem dX11_reads_22 : decode cX11_reads 22 = .ok (.bipush (-5), 2) := by decide +kernel
theorem dX11_reads_24 : decode cX11_reads 24 = .ok (.invokevirtual 196, 3) := by decide +kernel
theorem dX11_reads_27 : decode cX11_reads 27 = .ok (.return_, 1) := by decide +kernel
theorem dX11_reads_28 : decode cX11_reads 28 = .ok (.aload_n 0, 1) := by decide +kernel
theorem dX11_reads_29 : decode cX11_reads 29 = .ok (.iload_n 1, 1) := by decide +kernel
theorem dX11_reads_30 : decode cX11_reads 30 = .ok (.putfield 213, 3) := by decide +kernel
theorem dX11_reads_33 : decode cX11_reads 33 = .ok (.aload_n 0, 1) := by decide +kernel
theorem dX11_reads_34 : decode cX11_reads 34 = .ok (.iload_n 2, 1) := by decide +kernel
theorem dX11_reads_35 : decode cX11_reads 35 = .ok (.putfield 216, 3) := by decide +kernel
theorem dX11_reads_38 : decode cX11_reads 38 = .ok (.aload_n 0, 1) := by decide +kernel
theorem dX11_reads_39 : decode cX11_reads 39 = .ok (.iconst 1, 1) := by decide +kernel
theorem dX11_reads_40 : decode cX11_reads 40 = .ok (.putfield 219, 3) := by decide +kernel
theorem dX11_reads_43 : decode cX11_reads 43 = .ok (.aload_n 0, 1) := by decide +kernel
theorem dX11_reads_44 : decode cX11_reads 44 = .ok (.bipush 20, 2) := by decide +kernel
theorem dX11_reads_46 : decode cX11_reads 46 = .ok (.putfield 186, 3) := by decide +kernel
theorem dX11_reads_49 : decode cX11_reads 49 = .ok (.aload_n 0, 1) := by decide +kernel
theorem dX11_reads_50 : decode cX11_reads 50 = .ok (.aload_n 0, 1) := by decide +kernel
theorem dX11_reads_51 : decode cX11_reads 51 = .ok (.getfield 104, 3) := by decide +kernel
theorem dX11_reads_54 : decode cX11_reads 54 = .ok (.iconst 4, 1) := by decide +kernel
theorem dX11_reads_55 : decode cX11_reads 55 = .ok (.iload_n 3, 1) := by decide +kernel
theorem dX11_reads_56 : decode cX11_reads 56 = .ok (.imul, 1) := by decide +kernel
theorem dX11_reads_57 : decode cX11_reads 57 = .ok (.iload 4, 2) := by decide +kernel
theorem dX11_reads_59 : decode cX11_reads 59 = .ok (.bipush 8, 2) := by decide +kernel
theorem dX11_reads_61 : decode cX11_reads 61 = .ok (.idiv, 1) := by decide +kernel
theorem dX11_reads_62 : decode cX11_reads 62 = .ok (.iadd, 1) := by decide +kernel
theorem dX11_reads_63 : decode cX11_reads 63 = .ok (.iaload, 1) := by decide +kernel
theorem dX11_reads_64 : decode cX11_reads 64 = .ok (.putfield 189, 3) := by decide +kernel
theorem dX11_reads_67 : decode cX11_reads 67 = .ok (.aload_n 0, 1) := by decide +kernel
theorem dX11_reads_68 : decode cX11_reads 68 = .ok (.invokevirtual 172, 3) := by decide +kernel
theorem dX11_reads_71 : decode cX11_reads 71 = .ok (.return_, 1) := by decide +kernel
theorem dX11_writes_0 : decode cX11_writes 0 = .ok (.aload_n 0, 1) := by decide +kernel
theorem dX11_writes_1 : decode cX11_writes 1 = .ok (.getfield 95, 3) := by decide +kernel
theorem dX11_writes_4 : decode cX11_writes 4 = .ok (.iload_n 2, 1) := by decide +kernel
theorem dX11_writes_5 : decode cX11_writes 5 = .ok (.iaload, 1) := by decide +kernel
theorem dX11_writes_6 : decode cX11_writes 6 = .ok (.istore 5, 2) := by decide +kernel
theorem dX11_writes_8 : decode cX11_writes 8 = .ok (.iload 5, 2) := by decide +kernel
theorem dX11_writes_10 : decode cX11_writes 10 = .ok (.bipush 32, 2) := by decide +kernel
theorem dX11_writes_12 : decode cX11_writes 12 = .ok (.if_icmp .ne 12, 3) := by decide +kernel
theorem dX11_writes_15 : decode cX11_writes 15 = .ok (.aload_n 0, 1) := by decide +kernel
theorem dX11_writes_16 : decode cX11_writes 16 = .ok (.iconst 2, 1) := by decide +kernel
theorem dX11_writes_17 : decode cX11_writes 17 = .ok (.iload_n 1, 1) := by decide +kernel
theorem dX11_writes_18 : decode cX11_writes 18 = .ok (.bipush (-4), 2) := by decide +kernel
end
section
theorem dX11_writes_20 : decode cX11_writes 20 = .ok (.invokevirtual 196, 3) := by decide +kernel
theorem dX11_writes_23 : decode cX11_writes 23 = .ok (.return_, 1) := by decide +kernel
theorem dX11_writes_24 : decode cX11_writes 24 = .ok (.aload_n 0, 1) := by decide +kernel
theorem dX11_writes_25 : decode cX11_writes 25 = .ok (.iload_n 1, 1) := by decide +kernel
theorem dX11_writes_26 : decode cX11_writes 26 = .ok (.putfield 213, 3) := by decide +kernel
theorem dX11_writes_29 : decode cX11_writes 29 = .ok (.aload_n 0, 1) := by decide +kernel
theorem dX11_writes_30 : decode cX11_writes 30 = .ok (.iload_n 2, 1) := by decide +kernel
theorem dX11_writes_31 : decode cX11_writes 31 = .ok (.putfield 216, 3) := by decide +kernel
theorem dX11_writes_34 : decode cX11_writes 34 = .ok (.aload_n 0, 1) := by decide +kernel
theorem dX11_writes_35 : decode cX11_writes 35 = .ok (.iload 4, 2) := by decide +kernel
theorem dX11_writes_37 : decode cX11_writes 37 = .ok (.putfield 222, 3) := by decide +kernel
theorem dX11_writes_40 : decode cX11_writes 40 = .ok (.iload 5, 2) := by decide +kernel
theorem dX11_writes_42 : decode cX11_writes 42 = .ok (.aload_n 0, 1) := by decide +kernel
theorem dX11_writes_43 : decode cX11_writes 43 = .ok (.getfield 101, 3) := by decide +kernel
theorem dX11_writes_46 : decode cX11_writes 46 = .ok (.iload_n 3, 1) := by decide +kernel
theorem dX11_writes_47 : decode cX11_writes 47 = .ok (.iaload, 1) := by decide +kernel
theorem dX11_writes_48 : decode cX11_writes 48 = .ok (.if_icmp .ne 125, 3) := by decide +kernel
theorem dX11_writes_51 : decode cX11_writes 51 = .ok (.iload 5, 2) := by decide +kernel
theorem dX11_writes_53 : decode cX11_writes 53 = .ok (.bipush 8, 2) := by decide +kernel
theorem dX11_writes_55 : decode cX11_writes 55 = .ok (.irem, 1) := by decide +kernel
theorem dX11_writes_56 : decode cX11_writes 56 = .ok (.ifCond .ne 117, 3) := by decide +kernel
theorem dX11_writes_59 : decode cX11_writes 59 = .ok (.iconst 0, 1) := by decide +kernel
theorem dX11_writes_60 : decode cX11_writes 60 = .ok (.istore 6, 2) := by decide +kernel
theorem dX11_writes_62 : decode cX11_writes 62 = .ok (.iload 6, 2) := by decide +kernel
theorem dX11_writes_64 : decode cX11_writes 64 = .ok (.bipush 24, 2) := by decide +kernel
theorem dX11_writes_66 : decode cX11_writes 66 = .ok (.if_icmp .ge 19, 3) := by decide +kernel
theorem dX11_writes_69 : decode cX11_writes 69 = .ok (.aload_n 0, 1) := by decide +kernel
theorem dX11_writes_70 : decode cX11_writes 70 = .ok (.getfield 107, 3) := by decide +kernel
theorem dX11_writes_73 : decode cX11_writes 73 = .ok (.iload 6, 2) := by decide +kernel
theorem dX11_writes_75 : decode cX11_writes 75 = .ok (.baload, 1) := by decide +kernel
theorem dX11_writes_76 : decode cX11_writes 76 = .ok (.ifCond .eq 9, 3) := by decide +kernel
theorem dX11_writes_79 : decode cX11_writes 79 = .ok (.iinc 6 1, 3) := by decide +kernel
theorem dX11_writes_82 : decode cX11_writes 82 = .ok (.goto (-20), 3) := by decide +kernel
theorem dX11_writes_85 : decode cX11_writes 85 = .ok (.iload 6, 2) := by decide +kernel
theorem dX11_writes_87 : decode cX11_writes 87 = .ok (.bipush 24, 2) := by decide +kernel
theorem dX11_writes_89 : decode cX11_writes 89 = .ok (.if_icmp .ne 12, 3) := by decide +kernel
theorem dX11_writes_92 : decode cX11_writes 92 = .ok (.aload_n 0, 1) := by decide +kernel
theorem dX11_writes_93 : decode cX11_writes 93 = .ok (.iconst 2, 1) := by decide +kernel
theorem dX11_writes_94 : decode cX11_writes 94 = .ok (.iload_n 1, 1) := by decide +kernel
theorem dX11_writes_95 : decode cX11_writes 95 = .ok (.bipush (-6), 2) := by decide +kernel
theorem dX11_writes_97 : decode cX11_writes 97 = .ok (.invokevirtual 196, 3) := by decide +kernel
theorem dX11_writes_100 : decode cX11_writes 100 = .ok (.return_, 1) := by decide +kernel
theorem dX11_writes_101 : decode cX11_writes 101 = .ok (.aload_n 0, 1) := by decide +kernel
theorem dX11_writes_102 : decode cX11_writes 102 = .ok (.getfield 107, 3) := by decide +kernel
theorem dX11_writes_105 : decode cX11_writes 105 = .ok (.iload 6, 2) := by decide +kernel
theorem dX11_writes_107 : decode cX11_writes 107 = .ok (.iconst 1, 1) := by decide +kernel
theorem dX11_writes_108 : decode cX11_writes 108 = .ok (.bastore, 1) := by decide +kernel
theorem dX11_writes_109 : decode cX11_writes 109 = .ok (.aload_n 0, 1) := by decide +kernel
theorem dX11_writes_110 : decode cX11_writes 110 = .ok (.getfield 104, 3) := by decide +kernel
theorem dX11_writes_113 : decode cX11_writes 113 = .ok (.iconst 4, 1) := by decide +kernel
theorem dX11_writes_114 : decode cX11_writes 114 = .ok (.iload_n 3, 1) := by decide +kernel
theorem dX11_writes_115 : decode cX11_writes 115 = .ok (.imul, 1) := by decide +kernel
theorem dX11_writes_116 : decode cX11_writes 116 = .ok (.iload 5, 2) := by decide +kernel
theorem dX11_writes_118 : decode cX11_writes 118 = .ok (.bipush 8, 2) := by decide +kernel
theorem dX11_writes_120 : decode cX11_writes 120 = .ok (.idiv, 1) := by decide +kernel
theorem dX11_writes_121 : decode cX11_writes 121 = .ok (.iadd, 1) := by decide +kernel
theorem dX11_writes_122 : decode cX11_writes 122 = .ok (.iload 6, 2) := by decide +kernel
theorem dX11_writes_124 : decode cX11_writes 124 = .ok (.iastore, 1) := by decide +kernel
theorem dX11_writes_125 : decode cX11_writes 125 = .ok (.iconst 0, 1) := by decide +kernel
theorem dX11_writes_126 : decode cX11_writes 126 = .ok (.istore 7, 2) := by decide +kernel
theorem dX11_writes_128 : decode cX11_writes 128 = .ok (.iload 7, 2) := by decide +kernel
theorem dX11_writes_130 : decode cX11_writes 130 = .ok (.bipush 8, 2) := by decide +kernel
theorem dX11_writes_132 : decode cX11_writes 132 = .ok (.if_icmp .ge 27, 3) := by decide +kernel
theorem dX11_writes_135 : decode cX11_writes 135 = .ok (.aload_n 0, 1) := by decide +kernel
theorem dX11_writes_136 : decode cX11_writes 136 = .ok (.getfield 116, 3) := by decide +kernel
theorem dX11_writes_139 : decode cX11_writes 139 = .ok (.iload 7, 2) := by decide +kernel
theorem dX11_writes_141 : decode cX11_writes 141 = .ok (.iload 7, 2) := by decide +kernel
theorem dX11_writes_143 : decode cX11_writes 143 = .ok (.ifCond .ne 8, 3) := by decide +kernel
theorem dX11_writes_146 : decode cX11_writes 146 = .ok (.iload 4, 2) := by decide +kernel
theorem dX11_writes_148 : decode cX11_writes 148 = .ok (.goto 4, 3) := by decide +kernel
theorem dX11_writes_151 : decode cX11_writes 151 = .ok (.iconst 0, 1) := by decide +kernel
theorem dX11_writes_152 : decode cX11_writes 152 = .ok (.iastore, 1) := by decide +kernel
theorem dX11_writes_153 : decode cX11_writes 153 = .ok (.iinc 7 1, 3) := by decide +kernel
theorem dX11_writes_156 : decode cX11_writes 156 = .ok (.goto (-28), 3) := by decide +kernel
theorem dX11_writes_159 : decode cX11_writes 159 = .ok (.aload_n 0, 1) := by decide +kernel
theorem dX11_writes_160 : decode cX11_writes 160 = .ok (.iconst 3, 1) := by decide +kernel
theorem dX11_writes_161 : decode cX11_writes 161 = .ok (.putfield 219, 3) := by decide +kernel
theorem dX11_writes_164 : decode cX11_writes 164 = .ok (.aload_n 0, 1) := by decide +kernel
theorem dX11_writes_165 : decode cX11_writes 165 = .ok (.bipush 21, 2) := by decide +kernel
theorem dX11_writes_167 : decode cX11_writes 167 = .ok (.putfield 186, 3) := by decide +kernel
theorem dX11_writes_170 : decode cX11_writes 170 = .ok (.goto 14, 3) := by decide +kernel
theorem dX11_writes_173 : decode cX11_writes 173 = .ok (.aload_n 0, 1) := by decide +kernel
theorem dX11_writes_174 : decode cX11_writes 174 = .ok (.iconst 2, 1) := by decide +kernel
theorem dX11_writes_175 : decode cX11_writes 175 = .ok (.putfield 219, 3) := by decide +kernel
theorem dX11_writes_178 : decode cX11_writes 178 = .ok (.aload_n 0, 1) := by decide +kernel
theorem dX11_writes_179 : decode cX11_writes 179 = .ok (.bipush 20, 2) := by decide +kernel
theorem dX11_writes_181 : decode cX11_writes 181 = .ok (.putfield 186, 3) := by decide +kernel
theorem dX11_writes_184 : decode cX11_writes 184 = .ok (.aload_n 0, 1) := by decide +kernel
theorem dX11_writes_185 : decode cX11_writes 185 = .ok (.aload_n 0, 1) := by decide +kernel
theorem dX11_writes_186 : decode cX11_writes 186 = .ok (.getfield 104, 3) := by decide +kernel
theorem dX11_writes_189 : decode cX11_writes 189 = .ok (.iconst 4, 1) := by decide +kernel
theorem dX11_writes_190 : decode cX11_writes 190 = .ok (.iload_n 3, 1) := by decide +kernel
theorem dX11_writes_191 : decode cX11_writes 191 = .ok (.imul, 1) := by decide +kernel
theorem dX11_writes_192 : decode cX11_writes 192 = .ok (.iload 5, 2) := by decide +kernel
theorem dX11_writes_194 : decode cX11_writes 194 = .ok (.bipush 8, 2) := by decide +kernel
theorem dX11_writes_196 : decode cX11_writes 196 = .ok (.idiv, 1) := by decide +kernel
theorem dX11_writes_197 : decode cX11_writes 197 = .ok (.iadd, 1) := by decide +kernel
theorem dX11_writes_198 : decode cX11_writes 198 = .ok (.iaload, 1) := by decide +kernel
theorem dX11_writes_199 : decode cX11_writes 199 = .ok (.putfield 189, 3) := by decide +kernel
theorem dX11_writes_202 : decode cX11_writes 202 = .ok (.aload_n 0, 1) := by decide +kernel
theorem dX11_writes_203 : decode cX11_writes 203 = .ok (.invokevirtual 172, 3) := by decide +kernel
theorem dX11_writes_206 : decode cX11_writes 206 = .ok (.return_, 1) := by decide +kernel
theorem dX11_goesOn_0 : decode cX11_goesOn 0 = .ok (.aload_n 0, 1) := by decide +kernel
theorem dX11_goesOn_1 : decode cX11_goesOn 1 = .ok (.getfield 92, 3) := by decide +kernel
theorem dX11_goesOn_4 : decode cX11_goesOn 4 = .ok (.aload_n 0, 1) := by decide +kernel
theorem dX11_goesOn_5 : decode cX11_goesOn 5 = .ok (.getfield 216, 3) := by decide +kernel
theorem dX11_goesOn_8 : decode cX11_goesOn 8 = .ok (.iaload, 1) := by decide +kernel
theorem dX11_goesOn_9 : decode cX11_goesOn 9 = .ok (.istore_n 1, 1) := by decide +kernel
theorem dX11_goesOn_10 : decode cX11_goesOn 10 = .ok (.aload_n 0, 1) := by decide +kernel
theorem dX11_goesOn_11 : decode cX11_goesOn 11 = .ok (.getfield 95, 3) := by decide +kernel
theorem dX11_goesOn_14 : decode cX11_goesOn 14 = .ok (.aload_n 0, 1) := by decide +kernel
theorem dX11_goesOn_15 : decode cX11_goesOn 15 = .ok (.getfield 216, 3) := by decide +kernel
theorem dX11_goesOn_18 : decode cX11_goesOn 18 = .ok (.iaload, 1) := by decide +kernel
theorem dX11_goesOn_19 : decode cX11_goesOn 19 = .ok (.istore_n 2, 1) := by decide +kernel
theorem dX11_goesOn_20 : decode cX11_goesOn 20 = .ok (.aload_n 0, 1) := by decide +kernel
theorem dX11_goesOn_21 : decode cX11_goesOn 21 = .ok (.iconst 0, 1) := by decide +kernel
theorem dX11_goesOn_22 : decode cX11_goesOn 22 = .ok (.putfield 166, 3) := by decide +kernel
theorem dX11_goesOn_25 : decode cX11_goesOn 25 = .ok (.aload_n 0, 1) := by decide +kernel
theorem dX11_goesOn_26 : decode cX11_goesOn 26 = .ok (.getfield 219, 3) := by decide +kernel
theorem dX11_goesOn_29 : decode cX11_goesOn 29 = .ok (.iconst 1, 1) := by decide +kernel
theorem dX11_goesOn_30 : decode cX11_goesOn 30 = .ok (.if_icmp .ne 39, 3) := by decide +kernel
theorem dX11_goesOn_33 : decode cX11_goesOn 33 = .ok (.aload_n 0, 1) := by decide +kernel
theorem dX11_goesOn_34 : decode cX11_goesOn 34 = .ok (.getfield 95, 3) := by decide +kernel
theorem dX11_goesOn_37 : decode cX11_goesOn 37 = .ok (.aload_n 0, 1) := by decide +kernel
theorem dX11_goesOn_38 : decode cX11_goesOn 38 = .ok (.getfield 216, 3) := by decide +kernel
theorem dX11_goesOn_41 : decode cX11_goesOn 41 = .ok (.dup2, 1) := by decide +kernel
theorem dX11_goesOn_42 : decode cX11_goesOn 42 = .ok (.iaload, 1) := by decide +kernel
theorem dX11_goesOn_43 : decode cX11_goesOn 43 = .ok (.iconst 1, 1) := by decide +kernel
theorem dX11_goesOn_44 : decode cX11_goesOn 44 = .ok (.iadd, 1) := by decide +kernel
theorem dX11_goesOn_45 : decode cX11_goesOn 45 = .ok (.iastore, 1) := by decide +kernel
theorem dX11_goesOn_46 : decode cX11_goesOn 46 = .ok (.aload_n 0, 1) := by decide +kernel
theorem dX11_goesOn_47 : decode cX11_goesOn 47 = .ok (.iconst 2, 1) := by decide +kernel
theorem dX11_goesOn_48 : decode cX11_goesOn 48 = .ok (.aload_n 0, 1) := by decide +kernel
theorem dX11_goesOn_49 : decode cX11_goesOn 49 = .ok (.getfield 213, 3) := by decide +kernel
theorem dX11_goesOn_52 : decode cX11_goesOn 52 = .ok (.aload_n 0, 1) := by decide +kernel
theorem dX11_goesOn_53 : decode cX11_goesOn 53 = .ok (.getfield 61, 3) := by decide +kernel
theorem dX11_goesOn_56 : decode cX11_goesOn 56 = .ok (.iconst 5, 1) := by decide +kernel
theorem dX11_goesOn_57 : decode cX11_goesOn 57 = .ok (.iload_n 2, 1) := by decide +kernel
theorem dX11_goesOn_58 : decode cX11_goesOn 58 = .ok (.bipush 8, 2) := by decide +kernel
theorem dX11_goesOn_60 : decode cX11_goesOn 60 = .ok (.irem, 1) := by decide +kernel
theorem dX11_goesOn_61 : decode cX11_goesOn 61 = .ok (.iadd, 1) := by decide +kernel
theorem dX11_goesOn_62 : decode cX11_goesOn 62 = .ok (.iaload, 1) := by decide +kernel
theorem dX11_goesOn_63 : decode cX11_goesOn 63 = .ok (.invokevirtual 196, 3) := by decide +kernel
theorem dX11_goesOn_66 : decode cX11_goesOn 66 = .ok (.goto 119, 3) := by decide +kernel
theorem dX11_goesOn_69 : decode cX11_goesOn 69 = .ok (.aload_n 0, 1) := by decide +kernel
theorem dX11_goesOn_70 : decode cX11_goesOn 70 = .ok (.getfield 219, 3) := by decide +kernel
theorem dX11_goesOn_73 : decode cX11_goesOn 73 = .ok (.iconst 2, 1) := by decide +kernel
theorem dX11_goesOn_74 : decode cX11_goesOn 74 = .ok (.if_icmp .ne 64, 3) := by decide +kernel
theorem dX11_goesOn_77 : decode cX11_goesOn 77 = .ok (.iconst 0, 1) := by decide +kernel
theorem dX11_goesOn_78 : decode cX11_goesOn 78 = .ok (.istore_n 3, 1) := by decide +kernel
theorem dX11_goesOn_79 : decode cX11_goesOn 79 = .ok (.iload_n 3, 1) := by decide +kernel
theorem dX11_goesOn_80 : decode cX11_goesOn 80 = .ok (.bipush 8, 2) := by decide +kernel
theorem dX11_goesOn_82 : decode cX11_goesOn 82 = .ok (.if_icmp .ge 38, 3) := by decide +kernel
theorem dX11_goesOn_85 : decode cX11_goesOn 85 = .ok (.aload_n 0, 1) := by decide +kernel
theorem dX11_goesOn_86 : decode cX11_goesOn 86 = .ok (.getfield 116, 3) := by decide +kernel
theorem dX11_goesOn_89 : decode cX11_goesOn 89 = .ok (.iload_n 3, 1) := by decide +kernel
theorem dX11_goesOn_90 : decode cX11_goesOn 90 = .ok (.iload_n 3, 1) := by decide +kernel
theorem dX11_goesOn_91 : decode cX11_goesOn 91 = .ok (.iload_n 2, 1) := by decide +kernel
theorem dX11_goesOn_92 : decode cX11_goesOn 92 = .ok (.bipush 8, 2) := by decide +kernel
theorem dX11_goesOn_94 : decode cX11_goesOn 94 = .ok (.irem, 1) := by decide +kernel
theorem dX11_goesOn_95 : decode cX11_goesOn 95 = .ok (.if_icmp .ne 10, 3) := by decide +kernel
theorem dX11_goesOn_98 : decode cX11_goesOn 98 = .ok (.aload_n 0, 1) := by decide +kernel
theorem dX11_goesOn_99 : decode cX11_goesOn 99 = .ok (.getfield 222, 3) := by decide +kernel
theorem dX11_goesOn_102 : decode cX11_goesOn 102 = .ok (.goto 11, 3) := by decide +kernel
theorem dX11_goesOn_105 : decode cX11_goesOn 105 = .ok (.aload_n 0, 1) := by decide +kernel
theorem dX11_goesOn_106 : decode cX11_goesOn 106 = .ok (.getfield 61, 3) := by decide +kernel
theorem dX11_goesOn_109 : decode cX11_goesOn 109 = .ok (.iconst 5, 1) := by decide +kernel
theorem dX11_goesOn_110 : decode cX11_goesOn 110 = .ok (.iload_n 3, 1) := by decide +kernel
theorem dX11_goesOn_111 : decode cX11_goesOn 111 = .ok (.iadd, 1) := by decide +kernel
theorem dX11_goesOn_112 : decode cX11_goesOn 112 = .ok (.iaload, 1) := by decide +kernel
theorem dX11_goesOn_113 : decode cX11_goesOn 113 = .ok (.iastore, 1) := by decide +kernel
theorem dX11_goesOn_114 : decode cX11_goesOn 114 = .ok (.iinc 3 1, 3) := by decide +kernel
theorem dX11_goesOn_117 : decode cX11_goesOn 117 = .ok (.goto (-38), 3) := by decide +kernel
theorem dX11_goesOn_120 : decode cX11_goesOn 120 = .ok (.aload_n 0, 1) := by decide +kernel
theorem dX11_goesOn_121 : decode cX11_goesOn 121 = .ok (.iconst 3, 1) := by decide +kernel
theorem dX11_goesOn_122 : decode cX11_goesOn 122 = .ok (.putfield 219, 3) := by decide +kernel
theorem dX11_goesOn_125 : decode cX11_goesOn 125 = .ok (.aload_n 0, 1) := by decide +kernel
theorem dX11_goesOn_126 : decode cX11_goesOn 126 = .ok (.bipush 21, 2) := by decide +kernel
theorem dX11_goesOn_128 : decode cX11_goesOn 128 = .ok (.putfield 186, 3) := by decide +kernel
theorem dX11_goesOn_131 : decode cX11_goesOn 131 = .ok (.aload_n 0, 1) := by decide +kernel
theorem dX11_goesOn_132 : decode cX11_goesOn 132 = .ok (.invokevirtual 172, 3) := by decide +kernel
theorem dX11_goesOn_135 : decode cX11_goesOn 135 = .ok (.goto 50, 3) := by decide +kernel
theorem dX11_goesOn_138 : decode cX11_goesOn 138 = .ok (.aload_n 0, 1) := by decide +kernel
theorem dX11_goesOn_139 : decode cX11_goesOn 139 = .ok (.getfield 101, 3) := by decide +kernel
theorem dX11_goesOn_142 : decode cX11_goesOn 142 = .ok (.iload_n 1, 1) := by decide +kernel
theorem dX11_goesOn_143 : decode cX11_goesOn 143 = .ok (.dup2, 1) := by decide +kernel
theorem dX11_goesOn_144 : decode cX11_goesOn 144 = .ok (.iaload, 1) := by decide +kernel
theorem dX11_goesOn_145 : decode cX11_goesOn 145 = .ok (.iload_n 2, 1) := by decide +kernel
theorem dX11_goesOn_146 : decode cX11_goesOn 146 = .ok (.aload_n 0, 1) := by decide +kernel
theorem dX11_goesOn_147 : decode cX11_goesOn 147 = .ok (.getfield 101, 3) := by decide +kernel
theorem dX11_goesOn_150 : decode cX11_goesOn 150 = .ok (.iload_n 1, 1) := by decide +kernel
theorem dX11_goesOn_151 : decode cX11_goesOn 151 = .ok (.iaload, 1) := by decide +kernel
theorem dX11_goesOn_152 : decode cX11_goesOn 152 = .ok (.if_icmp .ne 7, 3) := by decide +kernel
theorem dX11_goesOn_155 : decode cX11_goesOn 155 = .ok (.iconst 1, 1) := by decide +kernel
theorem dX11_goesOn_156 : decode cX11_goesOn 156 = .ok (.goto 4, 3) := by decide +kernel
theorem dX11_goesOn_159 : decode cX11_goesOn 159 = .ok (.iconst 0, 1) := by decide +kernel
theorem dX11_goesOn_160 : decode cX11_goesOn 160 = .ok (.iadd, 1) := by decide +kernel
theorem dX11_goesOn_161 : decode cX11_goesOn 161 = .ok (.iastore, 1) := by decide +kernel
theorem dX11_goesOn_162 : decode cX11_goesOn 162 = .ok (.aload_n 0, 1) := by decide +kernel
theorem dX11_goesOn_163 : decode cX11_goesOn 163 = .ok (.getfield 95, 3) := by decide +kernel
theorem dX11_goesOn_166 : decode cX11_goesOn 166 = .ok (.aload_n 0, 1) := by decide +kernel
theorem dX11_goesOn_167 : decode cX11_goesOn 167 = .ok (.getfield 216, 3) := by decide +kernel
theorem dX11_goesOn_170 : decode cX11_goesOn 170 = .ok (.dup2, 1) := by decide +kernel
theorem dX11_goesOn_171 : decode cX11_goesOn 171 = .ok (.iaload, 1) := by decide +kernel
theorem dX11_goesOn_172 : decode cX11_goesOn 172 = .ok (.iconst 1, 1) := by decide +kernel
theorem dX11_goesOn_173 : decode cX11_goesOn 173 = .ok (.iadd, 1) := by decide +kernel
theorem dX11_goesOn_174 : decode cX11_goesOn 174 = .ok (.iastore, 1) := by decide +kernel
theorem dX11_goesOn_175 : decode cX11_goesOn 175 = .ok (.aload_n 0, 1) := by decide +kernel
theorem dX11_goesOn_176 : decode cX11_goesOn 176 = .ok (.iconst 2, 1) := by decide +kernel
theorem dX11_goesOn_177 : decode cX11_goesOn 177 = .ok (.aload_n 0, 1) := by decide +kernel
theorem dX11_goesOn_178 : decode cX11_goesOn 178 = .ok (.getfield 213, 3) := by decide +kernel
theorem dX11_goesOn_181 : decode cX11_goesOn 181 = .ok (.iconst 0, 1) := by decide +kernel
theorem dX11_goesOn_182 : decode cX11_goesOn 182 = .ok (.invokevirtual 196, 3) := by decide +kernel
theorem dX11_goesOn_185 : decode cX11_goesOn 185 = .ok (.return_, 1) := by decide +kernel
theorem dX11_processes_0 : decode cX11_processes 0 = .ok (.aload_n 0, 1) := by decide +kernel
theorem dX11_processes_1 : decode cX11_processes 1 = .ok (.iconst 3, 1) := by decide +kernel
theorem dX11_processes_2 : decode cX11_processes 2 = .ok (.invokevirtual 137, 3) := by decide +kernel
theorem dX11_processes_5 : decode cX11_processes 5 = .ok (.ifCond .eq 4, 3) := by decide +kernel
theorem dX11_processes_8 : decode cX11_processes 8 = .ok (.return_, 1) := by decide +kernel
theorem dX11_processes_9 : decode cX11_processes 9 = .ok (.iconst 0, 1) := by decide +kernel
theorem dX11_processes_10 : decode cX11_processes 10 = .ok (.istore_n 1, 1) := by decide +kernel
theorem dX11_processes_11 : decode cX11_processes 11 = .ok (.aload_n 0, 1) := by decide +kernel
theorem dX11_processes_12 : decode cX11_processes 12 = .ok (.getfield 225, 3) := by decide +kernel
theorem dX11_processes_15 : decode cX11_processes 15 = .ok (.ifCond .eq 40, 3) := by decide +kernel
theorem dX11_processes_18 : decode cX11_processes 18 = .ok (.iload_n 1, 1) := by decide +kernel
theorem dX11_processes_19 : decode cX11_processes 19 = .ok (.aload_n 0, 1) := by decide +kernel
theorem dX11_processes_20 : decode cX11_processes 20 = .ok (.getfield 38, 3) := by decide +kernel
theorem dX11_processes_23 : decode cX11_processes 23 = .ok (.iconst 3, 1) := by decide +kernel
theorem dX11_processes_24 : decode cX11_processes 24 = .ok (.iaload, 1) := by decide +kernel
theorem dX11_processes_25 : decode cX11_processes 25 = .ok (.if_icmp .ge 30, 3) := by decide +kernel
theorem dX11_processes_28 : decode cX11_processes 28 = .ok (.aload_n 0, 1) := by decide +kernel
theorem dX11_processes_29 : decode cX11_processes 29 = .ok (.iconst 3, 1) := by decide +kernel
theorem dX11_processes_30 : decode cX11_processes 30 = .ok (.iload_n 1, 1) := by decide +kernel
theorem dX11_processes_31 : decode cX11_processes 31 = .ok (.iconst 0, 1) := by decide +kernel
theorem dX11_processes_32 : decode cX11_processes 32 = .ok (.invokevirtual 156, 3) := by decide +kernel
theorem dX11_processes_35 : decode cX11_processes 35 = .ok (.iconst 2, 1) := by decide +kernel
theorem dX11_processes_36 : decode cX11_processes 36 = .ok (.if_icmp .eq 19, 3) := by decide +kernel
theorem dX11_processes_39 : decode cX11_processes 39 = .ok (.aload_n 0, 1) := by decide +kernel
theorem dX11_processes_40 : decode cX11_processes 40 = .ok (.iconst 3, 1) := by decide +kernel
theorem dX11_processes_41 : decode cX11_processes 41 = .ok (.iload_n 1, 1) := by decide +kernel
theorem dX11_processes_42 : decode cX11_processes 42 = .ok (.iconst 1, 1) := by decide +kernel
theorem dX11_processes_43 : decode cX11_processes 43 = .ok (.invokevirtual 156, 3) := by decide +kernel
theorem dX11_processes_46 : decode cX11_processes 46 = .ok (.ifCond .eq 9, 3) := by decide +kernel
theorem dX11_processes_49 : decode cX11_processes 49 = .ok (.iinc 1 1, 3) := by decide +kernel
theorem dX11_processes_52 : decode cX11_processes 52 = .ok (.goto (-41), 3) := by decide +kernel
theorem dX11_processes_55 : decode cX11_processes 55 = .ok (.iload_n 1, 1) := by decide +kernel
theorem dX11_processes_56 : decode cX11_processes 56 = .ok (.aload_n 0, 1) := by decide +kernel
theorem dX11_processes_57 : decode cX11_processes 57 = .ok (.getfield 38, 3) := by decide +kernel
theorem dX11_processes_60 : decode cX11_processes 60 = .ok (.iconst 3, 1) := by decide +kernel
theorem dX11_processes_61 : decode cX11_processes 61 = .ok (.iaload, 1) := by decide +kernel
theorem dX11_processes_62 : decode cX11_processes 62 = .ok (.if_icmp .ne 4, 3) := by decide +kernel
theorem dX11_processes_65 : decode cX11_processes 65 = .ok (.return_, 1) := by decide +kernel
theorem dX11_processes_66 : decode cX11_processes 66 = .ok (.aload_n 0, 1) := by decide +kernel
theorem dX11_processes_67 : decode cX11_processes 67 = .ok (.iconst 3, 1) := by decide +kernel
theorem dX11_processes_68 : decode cX11_processes 68 = .ok (.iload_n 1, 1) := by decide +kernel
theorem dX11_processes_69 : decode cX11_processes 69 = .ok (.invokevirtual 143, 3) := by decide +kernel
theorem dX11_processes_72 : decode cX11_processes 72 = .ok (.aload_n 0, 1) := by decide +kernel
theorem dX11_processes_73 : decode cX11_processes 73 = .ok (.getfield 61, 3) := by decide +kernel
theorem dX11_processes_76 : decode cX11_processes 76 = .ok (.iconst 0, 1) := by decide +kernel
theorem dX11_processes_77 : decode cX11_processes 77 = .ok (.iaload, 1) := by decide +kernel
theorem dX11_processes_78 : decode cX11_processes 78 = .ok (.istore_n 2, 1) := by decide +kernel
theorem dX11_processes_79 : decode cX11_processes 79 = .ok (.aload_n 0, 1) := by decide +kernel
theorem dX11_processes_80 : decode cX11_processes 80 = .ok (.getfield 61, 3) := by decide +kernel
theorem dX11_processes_83 : decode cX11_processes 83 = .ok (.iconst 2, 1) := by decide +kernel
theorem dX11_processes_84 : decode cX11_processes 84 = .ok (.iaload, 1) := by decide +kernel
theorem dX11_processes_85 : decode cX11_processes 85 = .ok (.istore_n 3, 1) := by decide +kernel
theorem dX11_processes_86 : decode cX11_processes 86 = .ok (.aload_n 0, 1) := by decide +kernel
theorem dX11_processes_87 : decode cX11_processes 87 = .ok (.getfield 61, 3) := by decide +kernel
theorem dX11_processes_90 : decode cX11_processes 90 = .ok (.iconst 1, 1) := by decide +kernel
theorem dX11_processes_91 : decode cX11_processes 91 = .ok (.iaload, 1) := by decide +kernel
theorem dX11_processes_92 : decode cX11_processes 92 = .ok (.lookupswitch 176 #[(8, 60), (9, 66), (10, 82), (11, 88), (12, 138), (32, 164)], 60) := by decide +kernel
theorem dX11_processes_152 : decode cX11_processes 152 = .ok (.aload_n 0, 1) := by decide +kernel
theorem dX11_processes_153 : decode cX11_processes 153 = .ok (.iload_n 2, 1) := by decide +kernel
theorem dX11_processes_154 : decode cX11_processes 154 = .ok (.invokevirtual 228, 3) := by decide +kernel
theorem dX11_processes_157 : decode cX11_processes 157 = .ok (.return_, 1) := by decide +kernel
theorem dX11_processes_158 : decode cX11_processes 158 = .ok (.aload_n 0, 1) := by decide +kernel
theorem dX11_processes_159 : decode cX11_processes 159 = .ok (.iload_n 2, 1) := by decide +kernel
theorem dX11_processes_160 : decode cX11_processes 160 = .ok (.iload_n 2, 1) := by decide +kernel
theorem dX11_processes_161 : decode cX11_processes 161 = .ok (.iload_n 3, 1) := by decide +kernel
theorem dX11_processes_162 : decode cX11_processes 162 = .ok (.sipush 256, 3) := by decide +kernel
theorem dX11_processes_165 : decode cX11_processes 165 = .ok (.invokestatic 231, 3) := by decide +kernel
theorem dX11_processes_168 : decode cX11_processes 168 = .ok (.bipush 9, 2) := by decide +kernel
theorem dX11_processes_170 : decode cX11_processes 170 = .ok (.invokevirtual 236, 3) := by decide +kernel
theorem dX11_processes_173 : decode cX11_processes 173 = .ok (.return_, 1) := by decide +kernel
theorem dX11_processes_174 : decode cX11_processes 174 = .ok (.aload_n 0, 1) := by decide +kernel
theorem dX11_processes_175 : decode cX11_processes 175 = .ok (.iload_n 2, 1) := by decide +kernel
theorem dX11_processes_176 : decode cX11_processes 176 = .ok (.invokevirtual 239, 3) := by decide +kernel
theorem dX11_processes_179 : decode cX11_processes 179 = .ok (.return_, 1) := by decide +kernel
theorem dX11_processes_180 : decode cX11_processes 180 = .ok (.iload_n 3, 1) := by decide +kernel
theorem dX11_processes_181 : decode cX11_processes 181 = .ok (.invokestatic 11, 3) := by decide +kernel
theorem dX11_processes_184 : decode cX11_processes 184 = .ok (.ifCond .eq 37, 3) := by decide +kernel
theorem dX11_processes_187 : decode cX11_processes 187 = .ok (.aload_n 0, 1) := by decide +kernel
theorem dX11_processes_188 : decode cX11_processes 188 = .ok (.getfield 83, 3) := by decide +kernel
theorem dX11_processes_191 : decode cX11_processes 191 = .ok (.iload_n 3, 1) := by decide +kernel
theorem dX11_processes_192 : decode cX11_processes 192 = .ok (.iaload, 1) := by decide +kernel
theorem dX11_processes_193 : decode cX11_processes 193 = .ok (.iload_n 2, 1) := by decide +kernel
theorem dX11_processes_194 : decode cX11_processes 194 = .ok (.if_icmp .ne 27, 3) := by decide +kernel
theorem dX11_processes_197 : decode cX11_processes 197 = .ok (.aload_n 0, 1) := by decide +kernel
theorem dX11_processes_198 : decode cX11_processes 198 = .ok (.getfield 19, 3) := by decide +kernel
theorem dX11_processes_201 : decode cX11_processes 201 = .ok (.iload_n 3, 1) := by decide +kernel
theorem dX11_processes_202 : decode cX11_processes 202 = .ok (.iaload, 1) := by decide +kernel
theorem dX11_processes_203 : decode cX11_processes 203 = .ok (.iconst 1, 1) := by decide +kernel
theorem dX11_processes_204 : decode cX11_processes 204 = .ok (.if_icmp .ne 17, 3) := by decide +kernel
theorem dX11_processes_207 : decode cX11_processes 207 = .ok (.aload_n 0, 1) := by decide +kernel
theorem dX11_processes_208 : decode cX11_processes 208 = .ok (.iload_n 2, 1) := by decide +kernel
theorem dX11_processes_209 : decode cX11_processes 209 = .ok (.iload_n 3, 1) := by decide +kernel
theorem dX11_processes_210 : decode cX11_processes 210 = .ok (.sipush 255, 3) := by decide +kernel
theorem dX11_processes_213 : decode cX11_processes 213 = .ok (.bipush 11, 2) := by decide +kernel
theorem dX11_processes_215 : decode cX11_processes 215 = .ok (.invokevirtual 236, 3) := by decide +kernel
theorem dX11_processes_218 : decode cX11_processes 218 = .ok (.goto 11, 3) := by decide +kernel
theorem dX11_processes_221 : decode cX11_processes 221 = .ok (.aload_n 0, 1) := by decide +kernel
theorem dX11_processes_222 : decode cX11_processes 222 = .ok (.iconst 3, 1) := by decide +kernel
theorem dX11_processes_223 : decode cX11_processes 223 = .ok (.iload_n 2, 1) := by decide +kernel
theorem dX11_processes_224 : decode cX11_processes 224 = .ok (.bipush (-11), 2) := by decide +kernel
theorem dX11_processes_226 : decode cX11_processes 226 = .ok (.invokevirtual 196, 3) := by decide +kernel
theorem dX11_processes_229 : decode cX11_processes 229 = .ok (.return_, 1) := by decide +kernel
theorem dX11_processes_230 : decode cX11_processes 230 = .ok (.aload_n 0, 1) := by decide +kernel
theorem dX11_processes_231 : decode cX11_processes 231 = .ok (.iconst 3, 1) := by decide +kernel
theorem dX11_processes_232 : decode cX11_processes 232 = .ok (.iload_n 2, 1) := by decide +kernel
theorem dX11_processes_233 : decode cX11_processes 233 = .ok (.aload_n 0, 1) := by decide +kernel
theorem dX11_processes_234 : decode cX11_processes 234 = .ok (.getfield 83, 3) := by decide +kernel
theorem dX11_processes_237 : decode cX11_processes 237 = .ok (.iload_n 2, 1) := by decide +kernel
theorem dX11_processes_238 : decode cX11_processes 238 = .ok (.iaload, 1) := by decide +kernel
theorem dX11_processes_239 : decode cX11_processes 239 = .ok (.ifCond .ge 7, 3) := by decide +kernel
theorem dX11_processes_242 : decode cX11_processes 242 = .ok (.iconst 0, 1) := by decide +kernel
theorem dX11_processes_243 : decode cX11_processes 243 = .ok (.goto 9, 3) := by decide +kernel
theorem dX11_processes_246 : decode cX11_processes 246 = .ok (.aload_n 0, 1) := by decide +kernel
theorem dX11_processes_247 : decode cX11_processes 247 = .ok (.getfield 83, 3) := by decide +kernel
theorem dX11_processes_250 : decode cX11_processes 250 = .ok (.iload_n 2, 1) := by decide +kernel
theorem dX11_processes_251 : decode cX11_processes 251 = .ok (.iaload, 1) := by decide +kernel
theorem dX11_processes_252 : decode cX11_processes 252 = .ok (.invokevirtual 196, 3) := by decide +kernel
theorem dX11_processes_255 : decode cX11_processes 255 = .ok (.return_, 1) := by decide +kernel
theorem dX11_processes_256 : decode cX11_processes 256 = .ok (.aload_n 0, 1) := by decide +kernel
theorem dX11_processes_257 : decode cX11_processes 257 = .ok (.getfield 225, 3) := by decide +kernel
theorem dX11_processes_260 : decode cX11_processes 260 = .ok (.ifCond .eq 7, 3) := by decide +kernel
theorem dX11_processes_263 : decode cX11_processes 263 = .ok (.aload_n 0, 1) := by decide +kernel
theorem dX11_processes_264 : decode cX11_processes 264 = .ok (.invokevirtual 242, 3) := by decide +kernel
theorem dX11_processes_267 : decode cX11_processes 267 = .ok (.return_, 1) := by decide +kernel
theorem dX11_processes_268 : decode cX11_processes 268 = .ok (.return_, 1) := by decide +kernel
theorem dX11_forks_0 : decode cX11_forks 0 = .ok (.iconst 5, 1) := by decide +kernel
theorem dX11_forks_1 : decode cX11_forks 1 = .ok (.istore_n 2, 1) := by decide +kernel
theorem dX11_forks_2 : decode cX11_forks 2 = .ok (.iload_n 2, 1) := by decide +kernel
theorem dX11_forks_3 : decode cX11_forks 3 = .ok (.bipush 12, 2) := by decide +kernel
theorem dX11_forks_5 : decode cX11_forks 5 = .ok (.if_icmp .ge 18, 3) := by decide +kernel
theorem dX11_forks_8 : decode cX11_forks 8 = .ok (.aload_n 0, 1) := by decide +kernel
theorem dX11_forks_9 : decode cX11_forks 9 = .ok (.getfield 19, 3) := by decide +kernel
theorem dX11_forks_12 : decode cX11_forks 12 = .ok (.iload_n 2, 1) := by decide +kernel
theorem dX11_forks_13 : decode cX11_forks 13 = .ok (.iaload, 1) := by decide +kernel
theorem dX11_forks_14 : decode cX11_forks 14 = .ok (.ifCond .eq 9, 3) := by decide +kernel
theorem dX11_forks_17 : decode cX11_forks 17 = .ok (.iinc 2 1, 3) := by decide +kernel
theorem dX11_forks_20 : decode cX11_forks 20 = .ok (.goto (-18), 3) := by decide +kernel
theorem dX11_forks_23 : decode cX11_forks 23 = .ok (.iload_n 2, 1) := by decide +kernel
theorem dX11_forks_24 : decode cX11_forks 24 = .ok (.bipush 12, 2) := by decide +kernel
theorem dX11_forks_26 : decode cX11_forks 26 = .ok (.if_icmp .ne 12, 3) := by decide +kernel
theorem dX11_forks_29 : decode cX11_forks 29 = .ok (.aload_n 0, 1) := by decide +kernel
theorem dX11_forks_30 : decode cX11_forks 30 = .ok (.iconst 3, 1) := by decide +kernel
theorem dX11_forks_31 : decode cX11_forks 31 = .ok (.iload_n 1, 1) := by decide +kernel
theorem dX11_forks_32 : decode cX11_forks 32 = .ok (.bipush (-9), 2) := by decide +kernel
theorem dX11_forks_34 : decode cX11_forks 34 = .ok (.invokevirtual 196, 3) := by decide +kernel
theorem dX11_forks_37 : decode cX11_forks 37 = .ok (.return_, 1) := by decide +kernel
theorem dX11_forks_38 : decode cX11_forks 38 = .ok (.aload_n 0, 1) := by decide +kernel
theorem dX11_forks_39 : decode cX11_forks 39 = .ok (.bipush 8, 2) := by decide +kernel
theorem dX11_forks_41 : decode cX11_forks 41 = .ok (.iload_n 1, 1) := by decide +kernel
theorem dX11_forks_42 : decode cX11_forks 42 = .ok (.iload_n 2, 1) := by decide +kernel
theorem dX11_forks_43 : decode cX11_forks 43 = .ok (.invokevirtual 245, 3) := by decide +kernel
theorem dX11_forks_46 : decode cX11_forks 46 = .ok (.aload_n 0, 1) := by decide +kernel
theorem dX11_forks_47 : decode cX11_forks 47 = .ok (.bipush 30, 2) := by decide +kernel
theorem dX11_forks_49 : decode cX11_forks 49 = .ok (.iload_n 1, 1) := by decide +kernel
theorem dX11_forks_50 : decode cX11_forks 50 = .ok (.iload_n 2, 1) := by decide +kernel
theorem dX11_forks_51 : decode cX11_forks 51 = .ok (.invokevirtual 152, 3) := by decide +kernel
theorem dX11_forks_54 : decode cX11_forks 54 = .ok (.aload_n 0, 1) := by decide +kernel
theorem dX11_forks_55 : decode cX11_forks 55 = .ok (.iconst 3, 1) := by decide +kernel
theorem dX11_forks_56 : decode cX11_forks 56 = .ok (.iconst 2, 1) := by decide +kernel
theorem dX11_forks_57 : decode cX11_forks 57 = .ok (.invokevirtual 57, 3) := by decide +kernel
theorem dX11_forks_60 : decode cX11_forks 60 = .ok (.return_, 1) := by decide +kernel
theorem dX11_holds_0 : decode cX11_holds 0 = .ok (.aload_n 0, 1) := by decide +kernel
theorem dX11_holds_1 : decode cX11_holds 1 = .ok (.iconst 1, 1) := by decide +kernel
theorem dX11_holds_2 : decode cX11_holds 2 = .ok (.putfield 225, 3) := by decide +kernel
theorem dX11_holds_5 : decode cX11_holds 5 = .ok (.aload_n 0, 1) := by decide +kernel
theorem dX11_holds_6 : decode cX11_holds 6 = .ok (.iload_n 1, 1) := by decide +kernel
theorem dX11_holds_7 : decode cX11_holds 7 = .ok (.putfield 248, 3) := by decide +kernel
theorem dX11_holds_10 : decode cX11_holds 10 = .ok (.aload_n 0, 1) := by decide +kernel
theorem dX11_holds_11 : decode cX11_holds 11 = .ok (.iload_n 2, 1) := by decide +kernel
theorem dX11_holds_12 : decode cX11_holds 12 = .ok (.putfield 251, 3) := by decide +kernel
theorem dX11_holds_15 : decode cX11_holds 15 = .ok (.aload_n 0, 1) := by decide +kernel
theorem dX11_holds_16 : decode cX11_holds 16 = .ok (.iload_n 3, 1) := by decide +kernel
theorem dX11_holds_17 : decode cX11_holds 17 = .ok (.putfield 254, 3) := by decide +kernel
theorem dX11_holds_20 : decode cX11_holds 20 = .ok (.return_, 1) := by decide +kernel
theorem dX11_ends_0 : decode cX11_ends 0 = .ok (.aload_n 0, 1) := by decide +kernel
theorem dX11_ends_1 : decode cX11_ends 1 = .ok (.getfield 19, 3) := by decide +kernel
theorem dX11_ends_4 : decode cX11_ends 4 = .ok (.iload_n 2, 1) := by decide +kernel
theorem dX11_ends_5 : decode cX11_ends 5 = .ok (.iconst 2, 1) := by decide +kernel
theorem dX11_ends_6 : decode cX11_ends 6 = .ok (.iastore, 1) := by decide +kernel
theorem dX11_ends_7 : decode cX11_ends 7 = .ok (.aload_n 0, 1) := by decide +kernel
theorem dX11_ends_8 : decode cX11_ends 8 = .ok (.getfield 86, 3) := by decide +kernel
theorem dX11_ends_11 : decode cX11_ends 11 = .ok (.iload_n 2, 1) := by decide +kernel
theorem dX11_ends_12 : decode cX11_ends 12 = .ok (.iload_n 3, 1) := by decide +kernel
theorem dX11_ends_13 : decode cX11_ends 13 = .ok (.iastore, 1) := by decide +kernel
theorem dX11_ends_14 : decode cX11_ends 14 = .ok (.aload_n 0, 1) := by decide +kernel
theorem dX11_ends_15 : decode cX11_ends 15 = .ok (.getfield 73, 3) := by decide +kernel
theorem dX11_ends_18 : decode cX11_ends 18 = .ok (.iload_n 2, 1) := by decide +kernel
theorem dX11_ends_19 : decode cX11_ends 19 = .ok (.iconst 0, 1) := by decide +kernel
theorem dX11_ends_20 : decode cX11_ends 20 = .ok (.bastore, 1) := by decide +kernel
theorem dX11_ends_21 : decode cX11_ends 21 = .ok (.aload_n 0, 1) := by decide +kernel
theorem dX11_ends_22 : decode cX11_ends 22 = .ok (.getfield 89, 3) := by decide +kernel
theorem dX11_ends_25 : decode cX11_ends 25 = .ok (.iload_n 2, 1) := by decide +kernel
theorem dX11_ends_26 : decode cX11_ends 26 = .ok (.iconst 0, 1) := by decide +kernel
theorem dX11_ends_27 : decode cX11_ends 27 = .ok (.bastore, 1) := by decide +kernel
theorem dX11_ends_28 : decode cX11_ends 28 = .ok (.aload_n 0, 1) := by decide +kernel
theorem dX11_ends_29 : decode cX11_ends 29 = .ok (.getfield 38, 3) := by decide +kernel
theorem dX11_ends_32 : decode cX11_ends 32 = .ok (.iload_n 2, 1) := by decide +kernel
theorem dX11_ends_33 : decode cX11_ends 33 = .ok (.iconst 0, 1) := by decide +kernel
theorem dX11_ends_34 : decode cX11_ends 34 = .ok (.iastore, 1) := by decide +kernel
theorem dX11_ends_35 : decode cX11_ends 35 = .ok (.iconst 2, 1) := by decide +kernel
theorem dX11_ends_36 : decode cX11_ends 36 = .ok (.istore 5, 2) := by decide +kernel
theorem dX11_ends_38 : decode cX11_ends 38 = .ok (.iload 5, 2) := by decide +kernel
theorem dX11_ends_40 : decode cX11_ends 40 = .ok (.iconst 3, 1) := by decide +kernel
theorem dX11_ends_41 : decode cX11_ends 41 = .ok (.if_icmp .gt 52, 3) := by decide +kernel
theorem dX11_ends_44 : decode cX11_ends 44 = .ok (.aload_n 0, 1) := by decide +kernel
theorem dX11_ends_45 : decode cX11_ends 45 = .ok (.getfield 38, 3) := by decide +kernel
theorem dX11_ends_48 : decode cX11_ends 48 = .ok (.iload 5, 2) := by decide +kernel
theorem dX11_ends_50 : decode cX11_ends 50 = .ok (.iaload, 1) := by decide +kernel
theorem dX11_ends_51 : decode cX11_ends 51 = .ok (.iconst 1, 1) := by decide +kernel
theorem dX11_ends_52 : decode cX11_ends 52 = .ok (.isub, 1) := by decide +kernel
theorem dX11_ends_53 : decode cX11_ends 53 = .ok (.istore 6, 2) := by decide +kernel
theorem dX11_ends_55 : decode cX11_ends 55 = .ok (.iload 6, 2) := by decide +kernel
theorem dX11_ends_57 : decode cX11_ends 57 = .ok (.ifCond .lt 30, 3) := by decide +kernel
theorem dX11_ends_60 : decode cX11_ends 60 = .ok (.aload_n 0, 1) := by decide +kernel
theorem dX11_ends_61 : decode cX11_ends 61 = .ok (.iload 5, 2) := by decide +kernel
theorem dX11_ends_63 : decode cX11_ends 63 = .ok (.iload 6, 2) := by decide +kernel
theorem dX11_ends_65 : decode cX11_ends 65 = .ok (.iconst 0, 1) := by decide +kernel
theorem dX11_ends_66 : decode cX11_ends 66 = .ok (.invokevirtual 156, 3) := by decide +kernel
theorem dX11_ends_69 : decode cX11_ends 69 = .ok (.iload_n 2, 1) := by decide +kernel
theorem dX11_ends_70 : decode cX11_ends 70 = .ok (.if_icmp .ne 11, 3) := by decide +kernel
theorem dX11_ends_73 : decode cX11_ends 73 = .ok (.aload_n 0, 1) := by decide +kernel
theorem dX11_ends_74 : decode cX11_ends 74 = .ok (.iload 5, 2) := by decide +kernel
theorem dX11_ends_76 : decode cX11_ends 76 = .ok (.iload 6, 2) := by decide +kernel
theorem dX11_ends_78 : decode cX11_ends 78 = .ok (.invokevirtual 64, 3) := by decide +kernel
theorem dX11_ends_81 : decode cX11_ends 81 = .ok (.iinc 6 (-1), 3) := by decide +kernel
theorem dX11_ends_84 : decode cX11_ends 84 = .ok (.goto (-29), 3) := by decide +kernel
theorem dX11_ends_87 : decode cX11_ends 87 = .ok (.iinc 5 1, 3) := by decide +kernel
theorem dX11_ends_90 : decode cX11_ends 90 = .ok (.goto (-52), 3) := by decide +kernel
theorem dX11_ends_93 : decode cX11_ends 93 = .ok (.aload_n 0, 1) := by decide +kernel
theorem dX11_ends_94 : decode cX11_ends 94 = .ok (.iload 4, 2) := by decide +kernel
theorem dX11_ends_96 : decode cX11_ends 96 = .ok (.iload_n 1, 1) := by decide +kernel
theorem dX11_ends_97 : decode cX11_ends 97 = .ok (.iload_n 2, 1) := by decide +kernel
theorem dX11_ends_98 : decode cX11_ends 98 = .ok (.invokevirtual 245, 3) := by decide +kernel
theorem dX11_ends_101 : decode cX11_ends 101 = .ok (.aload_n 0, 1) := by decide +kernel
theorem dX11_ends_102 : decode cX11_ends 102 = .ok (.bipush 31, 2) := by decide +kernel
theorem dX11_ends_104 : decode cX11_ends 104 = .ok (.iload_n 2, 1) := by decide +kernel
theorem dX11_ends_105 : decode cX11_ends 105 = .ok (.iconst 0, 1) := by decide +kernel
theorem dX11_ends_106 : decode cX11_ends 106 = .ok (.invokevirtual 152, 3) := by decide +kernel
theorem dX11_ends_109 : decode cX11_ends 109 = .ok (.aload_n 0, 1) := by decide +kernel
theorem dX11_ends_110 : decode cX11_ends 110 = .ok (.iconst 3, 1) := by decide +kernel
theorem dX11_ends_111 : decode cX11_ends 111 = .ok (.iconst 2, 1) := by decide +kernel
theorem dX11_ends_112 : decode cX11_ends 112 = .ok (.invokevirtual 57, 3) := by decide +kernel
theorem dX11_ends_115 : decode cX11_ends 115 = .ok (.return_, 1) := by decide +kernel
theorem dX11_done_0 : decode cX11_done 0 = .ok (.aload_n 0, 1) := by decide +kernel
theorem dX11_done_1 : decode cX11_done 1 = .ok (.iconst 0, 1) := by decide +kernel
theorem dX11_done_2 : decode cX11_done 2 = .ok (.putfield 225, 3) := by decide +kernel
theorem dX11_done_5 : decode cX11_done 5 = .ok (.aload_n 0, 1) := by decide +kernel
theorem dX11_done_6 : decode cX11_done 6 = .ok (.getfield 254, 3) := by decide +kernel
theorem dX11_done_9 : decode cX11_done 9 = .ok (.istore_n 1, 1) := by decide +kernel
theorem dX11_done_10 : decode cX11_done 10 = .ok (.aload_n 0, 1) := by decide +kernel
theorem dX11_done_11 : decode cX11_done 11 = .ok (.getfield 248, 3) := by decide +kernel
theorem dX11_done_14 : decode cX11_done 14 = .ok (.bipush 8, 2) := by decide +kernel
theorem dX11_done_16 : decode cX11_done 16 = .ok (.if_icmp .ne 38, 3) := by decide +kernel
theorem dX11_done_19 : decode cX11_done 19 = .ok (.aload_n 0, 1) := by decide +kernel
theorem dX11_done_20 : decode cX11_done 20 = .ok (.getfield 19, 3) := by decide +kernel
theorem dX11_done_23 : decode cX11_done 23 = .ok (.iload_n 1, 1) := by decide +kernel
theorem dX11_done_24 : decode cX11_done 24 = .ok (.iconst 1, 1) := by decide +kernel
theorem dX11_done_25 : decode cX11_done 25 = .ok (.iastore, 1) := by decide +kernel
theorem dX11_done_26 : decode cX11_done 26 = .ok (.aload_n 0, 1) := by decide +kernel
theorem dX11_done_27 : decode cX11_done 27 = .ok (.getfield 83, 3) := by decide +kernel
theorem dX11_done_30 : decode cX11_done 30 = .ok (.iload_n 1, 1) := by decide +kernel
theorem dX11_done_31 : decode cX11_done 31 = .ok (.aload_n 0, 1) := by decide +kernel
theorem dX11_done_32 : decode cX11_done 32 = .ok (.getfield 251, 3) := by decide +kernel
theorem dX11_done_35 : decode cX11_done 35 = .ok (.iastore, 1) := by decide +kernel
theorem dX11_done_36 : decode cX11_done 36 = .ok (.aload_n 0, 1) := by decide +kernel
theorem dX11_done_37 : decode cX11_done 37 = .ok (.getfield 86, 3) := by decide +kernel
theorem dX11_done_40 : decode cX11_done 40 = .ok (.iload_n 1, 1) := by decide +kernel
theorem dX11_done_41 : decode cX11_done 41 = .ok (.iconst 0, 1) := by decide +kernel
theorem dX11_done_42 : decode cX11_done 42 = .ok (.iastore, 1) := by decide +kernel
theorem dX11_done_43 : decode cX11_done 43 = .ok (.aload_n 0, 1) := by decide +kernel
theorem dX11_done_44 : decode cX11_done 44 = .ok (.iconst 3, 1) := by decide +kernel
theorem dX11_done_45 : decode cX11_done 45 = .ok (.aload_n 0, 1) := by decide +kernel
theorem dX11_done_46 : decode cX11_done 46 = .ok (.getfield 251, 3) := by decide +kernel
theorem dX11_done_49 : decode cX11_done 49 = .ok (.iload_n 1, 1) := by decide +kernel
theorem dX11_done_50 : decode cX11_done 50 = .ok (.invokevirtual 196, 3) := by decide +kernel
theorem dX11_done_53 : decode cX11_done 53 = .ok (.return_, 1) := by decide +kernel
theorem dX11_done_54 : decode cX11_done 54 = .ok (.iconst 4, 1) := by decide +kernel
theorem dX11_done_55 : decode cX11_done 55 = .ok (.istore_n 2, 1) := by decide +kernel
theorem dX11_done_56 : decode cX11_done 56 = .ok (.iload_n 2, 1) := by decide +kernel
theorem dX11_done_57 : decode cX11_done 57 = .ok (.bipush 12, 2) := by decide +kernel
theorem dX11_done_59 : decode cX11_done 59 = .ok (.if_icmp .ge 52, 3) := by decide +kernel
theorem dX11_done_62 : decode cX11_done 62 = .ok (.aload_n 0, 1) := by decide +kernel
theorem dX11_done_63 : decode cX11_done 63 = .ok (.getfield 83, 3) := by decide +kernel
theorem dX11_done_66 : decode cX11_done 66 = .ok (.iload_n 2, 1) := by decide +kernel
theorem dX11_done_67 : decode cX11_done 67 = .ok (.iaload, 1) := by decide +kernel
theorem dX11_done_68 : decode cX11_done 68 = .ok (.iload_n 1, 1) := by decide +kernel
theorem dX11_done_69 : decode cX11_done 69 = .ok (.if_icmp .ne 36, 3) := by decide +kernel
theorem dX11_done_72 : decode cX11_done 72 = .ok (.aload_n 0, 1) := by decide +kernel
theorem dX11_done_73 : decode cX11_done 73 = .ok (.getfield 83, 3) := by decide +kernel
theorem dX11_done_76 : decode cX11_done 76 = .ok (.iload_n 2, 1) := by decide +kernel
theorem dX11_done_77 : decode cX11_done 77 = .ok (.iconst (-1), 1) := by decide +kernel
theorem dX11_done_78 : decode cX11_done 78 = .ok (.iastore, 1) := by decide +kernel
theorem dX11_done_79 : decode cX11_done 79 = .ok (.aload_n 0, 1) := by decide +kernel
theorem dX11_done_80 : decode cX11_done 80 = .ok (.getfield 19, 3) := by decide +kernel
theorem dX11_done_83 : decode cX11_done 83 = .ok (.iload_n 2, 1) := by decide +kernel
theorem dX11_done_84 : decode cX11_done 84 = .ok (.aload_n 0, 1) := by decide +kernel
theorem dX11_done_85 : decode cX11_done 85 = .ok (.getfield 19, 3) := by decide +kernel
theorem dX11_done_88 : decode cX11_done 88 = .ok (.iload_n 2, 1) := by decide +kernel
theorem dX11_done_89 : decode cX11_done 89 = .ok (.iaload, 1) := by decide +kernel
theorem dX11_done_90 : decode cX11_done 90 = .ok (.iconst 2, 1) := by decide +kernel
theorem dX11_done_91 : decode cX11_done 91 = .ok (.if_icmp .ne 7, 3) := by decide +kernel
theorem dX11_done_94 : decode cX11_done 94 = .ok (.iconst 0, 1) := by decide +kernel
theorem dX11_done_95 : decode cX11_done 95 = .ok (.goto 9, 3) := by decide +kernel
theorem dX11_done_98 : decode cX11_done 98 = .ok (.aload_n 0, 1) := by decide +kernel
theorem dX11_done_99 : decode cX11_done 99 = .ok (.getfield 19, 3) := by decide +kernel
theorem dX11_done_102 : decode cX11_done 102 = .ok (.iload_n 2, 1) := by decide +kernel
theorem dX11_done_103 : decode cX11_done 103 = .ok (.iaload, 1) := by decide +kernel
theorem dX11_done_104 : decode cX11_done 104 = .ok (.iastore, 1) := by decide +kernel
theorem dX11_done_105 : decode cX11_done 105 = .ok (.iinc 2 1, 3) := by decide +kernel
theorem dX11_done_108 : decode cX11_done 108 = .ok (.goto (-52), 3) := by decide +kernel
theorem dX11_done_111 : decode cX11_done 111 = .ok (.aload_n 0, 1) := by decide +kernel
theorem dX11_done_112 : decode cX11_done 112 = .ok (.getfield 83, 3) := by decide +kernel
theorem dX11_done_115 : decode cX11_done 115 = .ok (.iload_n 1, 1) := by decide +kernel
theorem dX11_done_116 : decode cX11_done 116 = .ok (.iaload, 1) := by decide +kernel
theorem dX11_done_117 : decode cX11_done 117 = .ok (.istore_n 2, 1) := by decide +kernel
theorem dX11_done_118 : decode cX11_done 118 = .ok (.iload_n 2, 1) := by decide +kernel
theorem dX11_done_119 : decode cX11_done 119 = .ok (.ifCond .ge 13, 3) := by decide +kernel
theorem dX11_done_122 : decode cX11_done 122 = .ok (.aload_n 0, 1) := by decide +kernel
theorem dX11_done_123 : decode cX11_done 123 = .ok (.getfield 19, 3) := by decide +kernel
theorem dX11_done_126 : decode cX11_done 126 = .ok (.iload_n 1, 1) := by decide +kernel
theorem dX11_done_127 : decode cX11_done 127 = .ok (.iconst 0, 1) := by decide +kernel
theorem dX11_done_128 : decode cX11_done 128 = .ok (.iastore, 1) := by decide +kernel
theorem dX11_done_129 : decode cX11_done 129 = .ok (.goto 30, 3) := by decide +kernel
theorem dX11_done_132 : decode cX11_done 132 = .ok (.aload_n 0, 1) := by decide +kernel
theorem dX11_done_133 : decode cX11_done 133 = .ok (.getfield 89, 3) := by decide +kernel
theorem dX11_done_136 : decode cX11_done 136 = .ok (.iload_n 2, 1) := by decide +kernel
theorem dX11_done_137 : decode cX11_done 137 = .ok (.baload, 1) := by decide +kernel
theorem dX11_done_138 : decode cX11_done 138 = .ok (.ifCond .eq 21, 3) := by decide +kernel
theorem dX11_done_141 : decode cX11_done 141 = .ok (.aload_n 0, 1) := by decide +kernel
theorem dX11_done_142 : decode cX11_done 142 = .ok (.getfield 89, 3) := by decide +kernel
theorem dX11_done_145 : decode cX11_done 145 = .ok (.iload_n 2, 1) := by decide +kernel
theorem dX11_done_146 : decode cX11_done 146 = .ok (.iconst 0, 1) := by decide +kernel
theorem dX11_done_147 : decode cX11_done 147 = .ok (.bastore, 1) := by decide +kernel
theorem dX11_done_148 : decode cX11_done 148 = .ok (.aload_n 0, 1) := by decide +kernel
theorem dX11_done_149 : decode cX11_done 149 = .ok (.iconst 3, 1) := by decide +kernel
theorem dX11_done_150 : decode cX11_done 150 = .ok (.iload_n 2, 1) := by decide +kernel
theorem dX11_done_151 : decode cX11_done 151 = .ok (.aload_n 0, 1) := by decide +kernel
theorem dX11_done_152 : decode cX11_done 152 = .ok (.iload_n 1, 1) := by decide +kernel
theorem dX11_done_153 : decode cX11_done 153 = .ok (.invokevirtual 257, 3) := by decide +kernel
theorem dX11_done_156 : decode cX11_done 156 = .ok (.invokevirtual 196, 3) := by decide +kernel
theorem dX11_done_159 : decode cX11_done 159 = .ok (.aload_n 0, 1) := by decide +kernel
theorem dX11_done_160 : decode cX11_done 160 = .ok (.getfield 248, 3) := by decide +kernel
theorem dX11_done_163 : decode cX11_done 163 = .ok (.bipush 11, 2) := by decide +kernel
theorem dX11_done_165 : decode cX11_done 165 = .ok (.if_icmp .ne 13, 3) := by decide +kernel
theorem dX11_done_168 : decode cX11_done 168 = .ok (.aload_n 0, 1) := by decide +kernel
theorem dX11_done_169 : decode cX11_done 169 = .ok (.iconst 3, 1) := by decide +kernel
theorem dX11_done_170 : decode cX11_done 170 = .ok (.aload_n 0, 1) := by decide +kernel
theorem dX11_done_171 : decode cX11_done 171 = .ok (.getfield 251, 3) := by decide +kernel
theorem dX11_done_174 : decode cX11_done 174 = .ok (.iconst 0, 1) := by decide +kernel
theorem dX11_done_175 : decode cX11_done 175 = .ok (.invokevirtual 196, 3) := by decide +kernel
theorem dX11_done_178 : decode cX11_done 178 = .ok (.return_, 1) := by decide +kernel
theorem dX11_freed_0 : decode cX11_freed 0 = .ok (.aload_n 0, 1) := by decide +kernel
theorem dX11_freed_1 : decode cX11_freed 1 = .ok (.getfield 19, 3) := by decide +kernel
theorem dX11_freed_4 : decode cX11_freed 4 = .ok (.iload_n 1, 1) := by decide +kernel
theorem dX11_freed_5 : decode cX11_freed 5 = .ok (.iconst 0, 1) := by decide +kernel
theorem dX11_freed_6 : decode cX11_freed 6 = .ok (.iastore, 1) := by decide +kernel
theorem dX11_freed_7 : decode cX11_freed 7 = .ok (.aload_n 0, 1) := by decide +kernel
theorem dX11_freed_8 : decode cX11_freed 8 = .ok (.getfield 83, 3) := by decide +kernel
theorem dX11_freed_11 : decode cX11_freed 11 = .ok (.iload_n 1, 1) := by decide +kernel
theorem dX11_freed_12 : decode cX11_freed 12 = .ok (.iconst (-1), 1) := by decide +kernel
theorem dX11_freed_13 : decode cX11_freed 13 = .ok (.iastore, 1) := by decide +kernel
theorem dX11_freed_14 : decode cX11_freed 14 = .ok (.sipush 256, 3) := by decide +kernel
theorem dX11_freed_17 : decode cX11_freed 17 = .ok (.iload_n 1, 1) := by decide +kernel
theorem dX11_freed_18 : decode cX11_freed 18 = .ok (.imul, 1) := by decide +kernel
theorem dX11_freed_19 : decode cX11_freed 19 = .ok (.aload_n 0, 1) := by decide +kernel
theorem dX11_freed_20 : decode cX11_freed 20 = .ok (.getfield 86, 3) := by decide +kernel
theorem dX11_freed_23 : decode cX11_freed 23 = .ok (.iload_n 1, 1) := by decide +kernel
theorem dX11_freed_24 : decode cX11_freed 24 = .ok (.iaload, 1) := by decide +kernel
theorem dX11_freed_25 : decode cX11_freed 25 = .ok (.iadd, 1) := by decide +kernel
theorem dX11_freed_26 : decode cX11_freed 26 = .ok (.ireturn, 1) := by decide +kernel
theorem dX11_waitsFor_0 : decode cX11_waitsFor 0 = .ok (.iconst (-1), 1) := by decide +kernel
theorem dX11_waitsFor_1 : decode cX11_waitsFor 1 = .ok (.istore_n 2, 1) := by decide +kernel
theorem dX11_waitsFor_2 : decode cX11_waitsFor 2 = .ok (.iconst 0, 1) := by decide +kernel
theorem dX11_waitsFor_3 : decode cX11_waitsFor 3 = .ok (.istore_n 3, 1) := by decide +kernel
theorem dX11_waitsFor_4 : decode cX11_waitsFor 4 = .ok (.bipush 11, 2) := by decide +kernel
theorem dX11_waitsFor_6 : decode cX11_waitsFor 6 = .ok (.istore 4, 2) := by decide +kernel
theorem dX11_waitsFor_8 : decode cX11_waitsFor 8 = .ok (.iload 4, 2) := by decide +kernel
theorem dX11_waitsFor_10 : decode cX11_waitsFor 10 = .ok (.iconst 4, 1) := by decide +kernel
theorem dX11_waitsFor_11 : decode cX11_waitsFor 11 = .ok (.if_icmp .lt 75, 3) := by decide +kernel
theorem dX11_waitsFor_14 : decode cX11_waitsFor 14 = .ok (.aload_n 0, 1) := by decide +kernel
theorem dX11_waitsFor_15 : decode cX11_waitsFor 15 = .ok (.getfield 83, 3) := by decide +kernel
theorem dX11_waitsFor_18 : decode cX11_waitsFor 18 = .ok (.iload 4, 2) := by decide +kernel
theorem dX11_waitsFor_20 : decode cX11_waitsFor 20 = .ok (.iaload, 1) := by decide +kernel
theorem dX11_waitsFor_21 : decode cX11_waitsFor 21 = .ok (.iload_n 1, 1) := by decide +kernel
theorem dX11_waitsFor_22 : decode cX11_waitsFor 22 = .ok (.if_icmp .ne 17, 3) := by decide +kernel
theorem dX11_waitsFor_25 : decode cX11_waitsFor 25 = .ok (.aload_n 0, 1) := by decide +kernel
theorem dX11_waitsFor_26 : decode cX11_waitsFor 26 = .ok (.getfield 19, 3) := by decide +kernel
theorem dX11_waitsFor_29 : decode cX11_waitsFor 29 = .ok (.iload 4, 2) := by decide +kernel
theorem dX11_waitsFor_31 : decode cX11_waitsFor 31 = .ok (.iaload, 1) := by decide +kernel
theorem dX11_waitsFor_32 : decode cX11_waitsFor 32 = .ok (.ifCond .eq 7, 3) := by decide +kernel
theorem dX11_waitsFor_35 : decode cX11_waitsFor 35 = .ok (.iconst 1, 1) := by decide +kernel
theorem dX11_waitsFor_36 : decode cX11_waitsFor 36 = .ok (.goto 4, 3) := by decide +kernel
theorem dX11_waitsFor_39 : decode cX11_waitsFor 39 = .ok (.iconst 0, 1) := by decide +kernel
theorem dX11_waitsFor_40 : decode cX11_waitsFor 40 = .ok (.istore 5, 2) := by decide +kernel
theorem dX11_waitsFor_42 : decode cX11_waitsFor 42 = .ok (.iload_n 3, 1) := by decide +kernel
theorem dX11_waitsFor_43 : decode cX11_waitsFor 43 = .ok (.ifCond .ne 8, 3) := by decide +kernel
theorem dX11_waitsFor_46 : decode cX11_waitsFor 46 = .ok (.iload 5, 2) := by decide +kernel
theorem dX11_waitsFor_48 : decode cX11_waitsFor 48 = .ok (.ifCond .eq 7, 3) := by decide +kernel
theorem dX11_waitsFor_51 : decode cX11_waitsFor 51 = .ok (.iconst 1, 1) := by decide +kernel
theorem dX11_waitsFor_52 : decode cX11_waitsFor 52 = .ok (.goto 4, 3) := by decide +kernel
theorem dX11_waitsFor_55 : decode cX11_waitsFor 55 = .ok (.iconst 0, 1) := by decide +kernel
theorem dX11_waitsFor_56 : decode cX11_waitsFor 56 = .ok (.istore_n 3, 1) := by decide +kernel
theorem dX11_waitsFor_57 : decode cX11_waitsFor 57 = .ok (.iload 5, 2) := by decide +kernel
theorem dX11_waitsFor_59 : decode cX11_waitsFor 59 = .ok (.ifCond .eq 19, 3) := by decide +kernel
theorem dX11_waitsFor_62 : decode cX11_waitsFor 62 = .ok (.aload_n 0, 1) := by decide +kernel
theorem dX11_waitsFor_63 : decode cX11_waitsFor 63 = .ok (.getfield 19, 3) := by decide +kernel
theorem dX11_waitsFor_66 : decode cX11_waitsFor 66 = .ok (.iload 4, 2) := by decide +kernel
theorem dX11_waitsFor_68 : decode cX11_waitsFor 68 = .ok (.iaload, 1) := by decide +kernel
theorem dX11_waitsFor_69 : decode cX11_waitsFor 69 = .ok (.iconst 2, 1) := by decide +kernel
theorem dX11_waitsFor_70 : decode cX11_waitsFor 70 = .ok (.if_icmp .ne 8, 3) := by decide +kernel
theorem dX11_waitsFor_73 : decode cX11_waitsFor 73 = .ok (.iload 4, 2) := by decide +kernel
theorem dX11_waitsFor_75 : decode cX11_waitsFor 75 = .ok (.goto 4, 3) := by decide +kernel
theorem dX11_waitsFor_78 : decode cX11_waitsFor 78 = .ok (.iload_n 2, 1) := by decide +kernel
theorem dX11_waitsFor_79 : decode cX11_waitsFor 79 = .ok (.istore_n 2, 1) := by decide +kernel
theorem dX11_waitsFor_80 : decode cX11_waitsFor 80 = .ok (.iinc 4 (-1), 3) := by decide +kernel
theorem dX11_waitsFor_83 : decode cX11_waitsFor 83 = .ok (.goto (-75), 3) := by decide +kernel
theorem dX11_waitsFor_86 : decode cX11_waitsFor 86 = .ok (.iload_n 2, 1) := by decide +kernel
theorem dX11_waitsFor_87 : decode cX11_waitsFor 87 = .ok (.ifCond .lt 17, 3) := by decide +kernel
theorem dX11_waitsFor_90 : decode cX11_waitsFor 90 = .ok (.aload_n 0, 1) := by decide +kernel
theorem dX11_waitsFor_91 : decode cX11_waitsFor 91 = .ok (.iconst 3, 1) := by decide +kernel
theorem dX11_waitsFor_92 : decode cX11_waitsFor 92 = .ok (.iload_n 1, 1) := by decide +kernel
theorem dX11_waitsFor_93 : decode cX11_waitsFor 93 = .ok (.aload_n 0, 1) := by decide +kernel
theorem dX11_waitsFor_94 : decode cX11_waitsFor 94 = .ok (.iload_n 2, 1) := by decide +kernel
theorem dX11_waitsFor_95 : decode cX11_waitsFor 95 = .ok (.invokevirtual 257, 3) := by decide +kernel
theorem dX11_waitsFor_98 : decode cX11_waitsFor 98 = .ok (.invokevirtual 196, 3) := by decide +kernel
theorem dX11_waitsFor_101 : decode cX11_waitsFor 101 = .ok (.goto 25, 3) := by decide +kernel
theorem dX11_waitsFor_104 : decode cX11_waitsFor 104 = .ok (.iload_n 3, 1) := by decide +kernel
theorem dX11_waitsFor_105 : decode cX11_waitsFor 105 = .ok (.ifCond .eq 13, 3) := by decide +kernel
theorem dX11_waitsFor_108 : decode cX11_waitsFor 108 = .ok (.aload_n 0, 1) := by decide +kernel
theorem dX11_waitsFor_109 : decode cX11_waitsFor 109 = .ok (.getfield 89, 3) := by decide +kernel
theorem dX11_waitsFor_112 : decode cX11_waitsFor 112 = .ok (.iload_n 1, 1) := by decide +kernel
theorem dX11_waitsFor_113 : decode cX11_waitsFor 113 = .ok (.iconst 1, 1) := by decide +kernel
theorem dX11_waitsFor_114 : decode cX11_waitsFor 114 = .ok (.bastore, 1) := by decide +kernel
theorem dX11_waitsFor_115 : decode cX11_waitsFor 115 = .ok (.goto 11, 3) := by decide +kernel
theorem dX11_waitsFor_118 : decode cX11_waitsFor 118 = .ok (.aload_n 0, 1) := by decide +kernel
theorem dX11_waitsFor_119 : decode cX11_waitsFor 119 = .ok (.iconst 3, 1) := by decide +kernel
theorem dX11_waitsFor_120 : decode cX11_waitsFor 120 = .ok (.iload_n 1, 1) := by decide +kernel
theorem dX11_waitsFor_121 : decode cX11_waitsFor 121 = .ok (.bipush (-10), 2) := by decide +kernel
theorem dX11_waitsFor_123 : decode cX11_waitsFor 123 = .ok (.invokevirtual 196, 3) := by decide +kernel
theorem dX11_waitsFor_126 : decode cX11_waitsFor 126 = .ok (.return_, 1) := by decide +kernel
theorem dX11_ofUser_0 : decode cX11_ofUser 0 = .ok (.aload_n 0, 1) := by decide +kernel
theorem dX11_ofUser_1 : decode cX11_ofUser 1 = .ok (.getfield 38, 3) := by decide +kernel
theorem dX11_ofUser_4 : decode cX11_ofUser 4 = .ok (.iload_n 1, 1) := by decide +kernel
theorem dX11_ofUser_5 : decode cX11_ofUser 5 = .ok (.iaload, 1) := by decide +kernel
theorem dX11_ofUser_6 : decode cX11_ofUser 6 = .ok (.ifCond .ne 4, 3) := by decide +kernel
theorem dX11_ofUser_9 : decode cX11_ofUser 9 = .ok (.return_, 1) := by decide +kernel
theorem dX11_ofUser_10 : decode cX11_ofUser 10 = .ok (.aload_n 0, 1) := by decide +kernel
theorem dX11_ofUser_11 : decode cX11_ofUser 11 = .ok (.iload_n 1, 1) := by decide +kernel
theorem dX11_ofUser_12 : decode cX11_ofUser 12 = .ok (.iconst 0, 1) := by decide +kernel
theorem dX11_ofUser_13 : decode cX11_ofUser 13 = .ok (.invokevirtual 143, 3) := by decide +kernel
theorem dX11_ofUser_16 : decode cX11_ofUser 16 = .ok (.aload_n 0, 1) := by decide +kernel
theorem dX11_ofUser_17 : decode cX11_ofUser 17 = .ok (.getfield 61, 3) := by decide +kernel
theorem dX11_ofUser_20 : decode cX11_ofUser 20 = .ok (.iconst 1, 1) := by decide +kernel
theorem dX11_ofUser_21 : decode cX11_ofUser 21 = .ok (.iaload, 1) := by decide +kernel
theorem dX11_ofUser_22 : decode cX11_ofUser 22 = .ok (.bipush 50, 2) := by decide +kernel
theorem dX11_ofUser_24 : decode cX11_ofUser 24 = .ok (.if_icmp .ne 32, 3) := by decide +kernel
theorem dX11_ofUser_27 : decode cX11_ofUser 27 = .ok (.aload_n 0, 1) := by decide +kernel
theorem dX11_ofUser_28 : decode cX11_ofUser 28 = .ok (.getfield 73, 3) := by decide +kernel
theorem dX11_ofUser_31 : decode cX11_ofUser 31 = .ok (.iload_n 1, 1) := by decide +kernel
theorem dX11_ofUser_32 : decode cX11_ofUser 32 = .ok (.iconst 0, 1) := by decide +kernel
theorem dX11_ofUser_33 : decode cX11_ofUser 33 = .ok (.bastore, 1) := by decide +kernel
theorem dX11_ofUser_34 : decode cX11_ofUser 34 = .ok (.aload_n 0, 1) := by decide +kernel
theorem dX11_ofUser_35 : decode cX11_ofUser 35 = .ok (.getfield 77, 3) := by decide +kernel
theorem dX11_ofUser_38 : decode cX11_ofUser 38 = .ok (.iload_n 1, 1) := by decide +kernel
theorem dX11_ofUser_39 : decode cX11_ofUser 39 = .ok (.aload_n 0, 1) := by decide +kernel
theorem dX11_ofUser_40 : decode cX11_ofUser 40 = .ok (.getfield 61, 3) := by decide +kernel
theorem dX11_ofUser_43 : decode cX11_ofUser 43 = .ok (.iconst 2, 1) := by decide +kernel
theorem dX11_ofUser_44 : decode cX11_ofUser 44 = .ok (.iaload, 1) := by decide +kernel
theorem dX11_ofUser_45 : decode cX11_ofUser 45 = .ok (.iastore, 1) := by decide +kernel
theorem dX11_ofUser_46 : decode cX11_ofUser 46 = .ok (.aload_n 0, 1) := by decide +kernel
theorem dX11_ofUser_47 : decode cX11_ofUser 47 = .ok (.getfield 80, 3) := by decide +kernel
theorem dX11_ofUser_50 : decode cX11_ofUser 50 = .ok (.iload_n 1, 1) := by decide +kernel
theorem dX11_ofUser_51 : decode cX11_ofUser 51 = .ok (.dup2, 1) := by decide +kernel
theorem dX11_ofUser_52 : decode cX11_ofUser 52 = .ok (.iaload, 1) := by decide +kernel
theorem dX11_ofUser_53 : decode cX11_ofUser 53 = .ok (.iconst 1, 1) := by decide +kernel
theorem dX11_ofUser_54 : decode cX11_ofUser 54 = .ok (.iadd, 1) := by decide +kernel
theorem dX11_ofUser_55 : decode cX11_ofUser 55 = .ok (.iastore, 1) := by decide +kernel
theorem dX11_ofUser_56 : decode cX11_ofUser 56 = .ok (.return_, 1) := by decide +kernel
theorem dX11_turn_0 : decode cX11_turn 0 = .ok (.aload_n 0, 1) := by decide +kernel
theorem dX11_turn_1 : decode cX11_turn 1 = .ok (.getfield 260, 3) := by decide +kernel
theorem dX11_turn_4 : decode cX11_turn 4 = .ok (.istore_n 1, 1) := by decide +kernel
theorem dX11_turn_5 : decode cX11_turn 5 = .ok (.aload_n 0, 1) := by decide +kernel
theorem dX11_turn_6 : decode cX11_turn 6 = .ok (.aload_n 0, 1) := by decide +kernel
theorem dX11_turn_7 : decode cX11_turn 7 = .ok (.getfield 260, 3) := by decide +kernel
theorem dX11_turn_10 : decode cX11_turn 10 = .ok (.iconst 1, 1) := by decide +kernel
theorem dX11_turn_11 : decode cX11_turn 11 = .ok (.iadd, 1) := by decide +kernel
end
section
theorem dX11_turn_12 : decode cX11_turn 12 = .ok (.bipush 12, 2) := by decide +kernel
theorem dX11_turn_14 : decode cX11_turn 14 = .ok (.irem, 1) := by decide +kernel
theorem dX11_turn_15 : decode cX11_turn 15 = .ok (.putfield 260, 3) := by decide +kernel
theorem dX11_turn_18 : decode cX11_turn 18 = .ok (.aload_n 0, 1) := by decide +kernel
theorem dX11_turn_19 : decode cX11_turn 19 = .ok (.dup, 1) := by decide +kernel
theorem dX11_turn_20 : decode cX11_turn 20 = .ok (.getfield 263, 3) := by decide +kernel
theorem dX11_turn_23 : decode cX11_turn 23 = .ok (.iconst 1, 1) := by decide +kernel
theorem dX11_turn_24 : decode cX11_turn 24 = .ok (.iadd, 1) := by decide +kernel
theorem dX11_turn_25 : decode cX11_turn 25 = .ok (.putfield 263, 3) := by decide +kernel
theorem dX11_turn_28 : decode cX11_turn 28 = .ok (.aload_n 0, 1) := by decide +kernel
theorem dX11_turn_29 : decode cX11_turn 29 = .ok (.iload_n 1, 1) := by decide +kernel
theorem dX11_turn_30 : decode cX11_turn 30 = .ok (.invokevirtual 29, 3) := by decide +kernel
theorem dX11_turn_33 : decode cX11_turn 33 = .ok (.ifCond .ne 4, 3) := by decide +kernel
theorem dX11_turn_36 : decode cX11_turn 36 = .ok (.return_, 1) := by decide +kernel
theorem dX11_turn_37 : decode cX11_turn 37 = .ok (.iload_n 1, 1) := by decide +kernel
theorem dX11_turn_38 : decode cX11_turn 38 = .ok (.ifCond .ne 10, 3) := by decide +kernel
theorem dX11_turn_41 : decode cX11_turn 41 = .ok (.aload_n 0, 1) := by decide +kernel
theorem dX11_turn_42 : decode cX11_turn 42 = .ok (.invokevirtual 266, 3) := by decide +kernel
theorem dX11_turn_45 : decode cX11_turn 45 = .ok (.goto 44, 3) := by decide +kernel
theorem dX11_turn_48 : decode cX11_turn 48 = .ok (.iload_n 1, 1) := by decide +kernel
theorem dX11_turn_49 : decode cX11_turn 49 = .ok (.iconst 1, 1) := by decide +kernel
theorem dX11_turn_50 : decode cX11_turn 50 = .ok (.if_icmp .ne 10, 3) := by decide +kernel
theorem dX11_turn_53 : decode cX11_turn 53 = .ok (.aload_n 0, 1) := by decide +kernel
theorem dX11_turn_54 : decode cX11_turn 54 = .ok (.invokevirtual 269, 3) := by decide +kernel
theorem dX11_turn_57 : decode cX11_turn 57 = .ok (.goto 32, 3) := by decide +kernel
theorem dX11_turn_60 : decode cX11_turn 60 = .ok (.iload_n 1, 1) := by decide +kernel
theorem dX11_turn_61 : decode cX11_turn 61 = .ok (.iconst 2, 1) := by decide +kernel
theorem dX11_turn_62 : decode cX11_turn 62 = .ok (.if_icmp .ne 10, 3) := by decide +kernel
theorem dX11_turn_65 : decode cX11_turn 65 = .ok (.aload_n 0, 1) := by decide +kernel
theorem dX11_turn_66 : decode cX11_turn 66 = .ok (.invokevirtual 272, 3) := by decide +kernel
theorem dX11_turn_69 : decode cX11_turn 69 = .ok (.goto 20, 3) := by decide +kernel
theorem dX11_turn_72 : decode cX11_turn 72 = .ok (.iload_n 1, 1) := by decide +kernel
theorem dX11_turn_73 : decode cX11_turn 73 = .ok (.iconst 3, 1) := by decide +kernel
theorem dX11_turn_74 : decode cX11_turn 74 = .ok (.if_icmp .ne 10, 3) := by decide +kernel
theorem dX11_turn_77 : decode cX11_turn 77 = .ok (.aload_n 0, 1) := by decide +kernel
theorem dX11_turn_78 : decode cX11_turn 78 = .ok (.invokevirtual 275, 3) := by decide +kernel
theorem dX11_turn_81 : decode cX11_turn 81 = .ok (.goto 8, 3) := by decide +kernel
theorem dX11_turn_84 : decode cX11_turn 84 = .ok (.aload_n 0, 1) := by decide +kernel
theorem dX11_turn_85 : decode cX11_turn 85 = .ok (.iload_n 1, 1) := by decide +kernel
theorem dX11_turn_86 : decode cX11_turn 86 = .ok (.invokevirtual 278, 3) := by decide +kernel
theorem dX11_turn_89 : decode cX11_turn 89 = .ok (.return_, 1) := by decide +kernel
theorem dX11_steps_0 : decode cX11_steps 0 = .ok (.aload_n 0, 1) := by decide +kernel
theorem dX11_steps_1 : decode cX11_steps 1 = .ok (.iconst 0, 1) := by decide +kernel
theorem dX11_steps_2 : decode cX11_steps 2 = .ok (.putfield 1, 3) := by decide +kernel
theorem dX11_steps_5 : decode cX11_steps 5 = .ok (.iload_n 1, 1) := by decide +kernel
theorem dX11_steps_6 : decode cX11_steps 6 = .ok (.ifCond .lt 10, 3) := by decide +kernel
theorem dX11_steps_9 : decode cX11_steps 9 = .ok (.iload_n 1, 1) := by decide +kernel
theorem dX11_steps_10 : decode cX11_steps 10 = .ok (.sipush 20000, 3) := by decide +kernel
theorem dX11_steps_13 : decode cX11_steps 13 = .ok (.if_icmp .le 5, 3) := by decide +kernel
theorem dX11_steps_16 : decode cX11_steps 16 = .ok (.iconst (-1), 1) := by decide +kernel
theorem dX11_steps_17 : decode cX11_steps 17 = .ok (.ireturn, 1) := by decide +kernel
theorem dX11_steps_18 : decode cX11_steps 18 = .ok (.iconst 0, 1) := by decide +kernel
theorem dX11_steps_19 : decode cX11_steps 19 = .ok (.istore_n 2, 1) := by decide +kernel
theorem dX11_steps_20 : decode cX11_steps 20 = .ok (.iload_n 2, 1) := by decide +kernel
theorem dX11_steps_21 : decode cX11_steps 21 = .ok (.iload_n 1, 1) := by decide +kernel
theorem dX11_steps_22 : decode cX11_steps 22 = .ok (.if_icmp .ge 13, 3) := by decide +kernel
theorem dX11_steps_25 : decode cX11_steps 25 = .ok (.aload_n 0, 1) := by decide +kernel
theorem dX11_steps_26 : decode cX11_steps 26 = .ok (.invokevirtual 281, 3) := by decide +kernel
theorem dX11_steps_29 : decode cX11_steps 29 = .ok (.iinc 2 1, 3) := by decide +kernel
theorem dX11_steps_32 : decode cX11_steps 32 = .ok (.goto (-12), 3) := by decide +kernel
theorem dX11_steps_35 : decode cX11_steps 35 = .ok (.aload_n 0, 1) := by decide +kernel
theorem dX11_steps_36 : decode cX11_steps 36 = .ok (.getfield 263, 3) := by decide +kernel
theorem dX11_steps_39 : decode cX11_steps 39 = .ok (.ireturn, 1) := by decide +kernel
theorem dX11_until_0 : decode cX11_until 0 = .ok (.aload_n 0, 1) := by decide +kernel
theorem dX11_until_1 : decode cX11_until 1 = .ok (.iconst 0, 1) := by decide +kernel
theorem dX11_until_2 : decode cX11_until 2 = .ok (.putfield 1, 3) := by decide +kernel
theorem dX11_until_5 : decode cX11_until 5 = .ok (.iload_n 1, 1) := by decide +kernel
theorem dX11_until_6 : decode cX11_until 6 = .ok (.invokestatic 11, 3) := by decide +kernel
theorem dX11_until_9 : decode cX11_until 9 = .ok (.ifCond .eq 14, 3) := by decide +kernel
theorem dX11_until_12 : decode cX11_until 12 = .ok (.iload_n 2, 1) := by decide +kernel
theorem dX11_until_13 : decode cX11_until 13 = .ok (.ifCond .lt 10, 3) := by decide +kernel
theorem dX11_until_16 : decode cX11_until 16 = .ok (.iload_n 2, 1) := by decide +kernel
theorem dX11_until_17 : decode cX11_until 17 = .ok (.sipush 20000, 3) := by decide +kernel
theorem dX11_until_20 : decode cX11_until 20 = .ok (.if_icmp .le 5, 3) := by decide +kernel
theorem dX11_until_23 : decode cX11_until 23 = .ok (.iconst (-1), 1) := by decide +kernel
theorem dX11_until_24 : decode cX11_until 24 = .ok (.ireturn, 1) := by decide +kernel
theorem dX11_until_25 : decode cX11_until 25 = .ok (.iconst 0, 1) := by decide +kernel
theorem dX11_until_26 : decode cX11_until 26 = .ok (.istore_n 3, 1) := by decide +kernel
theorem dX11_until_27 : decode cX11_until 27 = .ok (.iload_n 3, 1) := by decide +kernel
theorem dX11_until_28 : decode cX11_until 28 = .ok (.iload_n 2, 1) := by decide +kernel
theorem dX11_until_29 : decode cX11_until 29 = .ok (.if_icmp .ge 22, 3) := by decide +kernel
theorem dX11_until_32 : decode cX11_until 32 = .ok (.aload_n 0, 1) := by decide +kernel
theorem dX11_until_33 : decode cX11_until 33 = .ok (.getfield 73, 3) := by decide +kernel
theorem dX11_until_36 : decode cX11_until 36 = .ok (.iload_n 1, 1) := by decide +kernel
theorem dX11_until_37 : decode cX11_until 37 = .ok (.baload, 1) := by decide +kernel
theorem dX11_until_38 : decode cX11_until 38 = .ok (.ifCond .eq 13, 3) := by decide +kernel
theorem dX11_until_41 : decode cX11_until 41 = .ok (.aload_n 0, 1) := by decide +kernel
theorem dX11_until_42 : decode cX11_until 42 = .ok (.invokevirtual 281, 3) := by decide +kernel
theorem dX11_until_45 : decode cX11_until 45 = .ok (.iinc 3 1, 3) := by decide +kernel
theorem dX11_until_48 : decode cX11_until 48 = .ok (.goto (-21), 3) := by decide +kernel
theorem dX11_until_51 : decode cX11_until 51 = .ok (.iload_n 3, 1) := by decide +kernel
theorem dX11_until_52 : decode cX11_until 52 = .ok (.ireturn, 1) := by decide +kernel
theorem dX11_call_0 : decode cX11_call 0 = .ok (.aload_n 0, 1) := by decide +kernel
theorem dX11_call_1 : decode cX11_call 1 = .ok (.iconst 0, 1) := by decide +kernel
theorem dX11_call_2 : decode cX11_call 2 = .ok (.putfield 1, 3) := by decide +kernel
theorem dX11_call_5 : decode cX11_call 5 = .ok (.iload_n 1, 1) := by decide +kernel
theorem dX11_call_6 : decode cX11_call 6 = .ok (.invokestatic 11, 3) := by decide +kernel
theorem dX11_call_9 : decode cX11_call 9 = .ok (.ifCond .eq 13, 3) := by decide +kernel
theorem dX11_call_12 : decode cX11_call 12 = .ok (.aload_n 0, 1) := by decide +kernel
theorem dX11_call_13 : decode cX11_call 13 = .ok (.getfield 19, 3) := by decide +kernel
theorem dX11_call_16 : decode cX11_call 16 = .ok (.iload_n 1, 1) := by decide +kernel
theorem dX11_call_17 : decode cX11_call 17 = .ok (.iaload, 1) := by decide +kernel
theorem dX11_call_18 : decode cX11_call 18 = .ok (.iconst 1, 1) := by decide +kernel
theorem dX11_call_19 : decode cX11_call 19 = .ok (.if_icmp .eq 5, 3) := by decide +kernel
theorem dX11_call_22 : decode cX11_call 22 = .ok (.iconst 1, 1) := by decide +kernel
theorem dX11_call_23 : decode cX11_call 23 = .ok (.ireturn, 1) := by decide +kernel
theorem dX11_call_24 : decode cX11_call 24 = .ok (.aload_n 0, 1) := by decide +kernel
theorem dX11_call_25 : decode cX11_call 25 = .ok (.getfield 73, 3) := by decide +kernel
theorem dX11_call_28 : decode cX11_call 28 = .ok (.iload_n 1, 1) := by decide +kernel
theorem dX11_call_29 : decode cX11_call 29 = .ok (.baload, 1) := by decide +kernel
theorem dX11_call_30 : decode cX11_call 30 = .ok (.ifCond .eq 5, 3) := by decide +kernel
theorem dX11_call_33 : decode cX11_call 33 = .ok (.iconst 2, 1) := by decide +kernel
theorem dX11_call_34 : decode cX11_call 34 = .ok (.ireturn, 1) := by decide +kernel
theorem dX11_call_35 : decode cX11_call 35 = .ok (.iload_n 2, 1) := by decide +kernel
theorem dX11_call_36 : decode cX11_call 36 = .ok (.iconst 1, 1) := by decide +kernel
theorem dX11_call_37 : decode cX11_call 37 = .ok (.if_icmp .lt 9, 3) := by decide +kernel
theorem dX11_call_40 : decode cX11_call 40 = .ok (.iload_n 2, 1) := by decide +kernel
theorem dX11_call_41 : decode cX11_call 41 = .ok (.bipush 12, 2) := by decide +kernel
theorem dX11_call_43 : decode cX11_call 43 = .ok (.if_icmp .le 5, 3) := by decide +kernel
theorem dX11_call_46 : decode cX11_call 46 = .ok (.iconst 3, 1) := by decide +kernel
theorem dX11_call_47 : decode cX11_call 47 = .ok (.ireturn, 1) := by decide +kernel
theorem dX11_call_48 : decode cX11_call 48 = .ok (.aload_n 0, 1) := by decide +kernel
theorem dX11_call_49 : decode cX11_call 49 = .ok (.iload_n 2, 1) := by decide +kernel
theorem dX11_call_50 : decode cX11_call 50 = .ok (.iload_n 3, 1) := by decide +kernel
theorem dX11_call_51 : decode cX11_call 51 = .ok (.iload 4, 2) := by decide +kernel
theorem dX11_call_53 : decode cX11_call 53 = .ok (.invokevirtual 152, 3) := by decide +kernel
theorem dX11_call_56 : decode cX11_call 56 = .ok (.aload_n 0, 1) := by decide +kernel
theorem dX11_call_57 : decode cX11_call 57 = .ok (.iload_n 1, 1) := by decide +kernel
theorem dX11_call_58 : decode cX11_call 58 = .ok (.iload_n 2, 1) := by decide +kernel
theorem dX11_call_59 : decode cX11_call 59 = .ok (.bipush 8, 2) := by decide +kernel
theorem dX11_call_61 : decode cX11_call 61 = .ok (.if_icmp .ge 7, 3) := by decide +kernel
theorem dX11_call_64 : decode cX11_call 64 = .ok (.iconst 2, 1) := by decide +kernel
theorem dX11_call_65 : decode cX11_call 65 = .ok (.goto 4, 3) := by decide +kernel
theorem dX11_call_68 : decode cX11_call 68 = .ok (.iconst 3, 1) := by decide +kernel
theorem dX11_call_69 : decode cX11_call 69 = .ok (.iconst 1, 1) := by decide +kernel
theorem dX11_call_70 : decode cX11_call 70 = .ok (.invokevirtual 47, 3) := by decide +kernel
theorem dX11_call_73 : decode cX11_call 73 = .ok (.ifCond .eq 5, 3) := by decide +kernel
theorem dX11_call_76 : decode cX11_call 76 = .ok (.iconst 4, 1) := by decide +kernel
theorem dX11_call_77 : decode cX11_call 77 = .ok (.ireturn, 1) := by decide +kernel
theorem dX11_call_78 : decode cX11_call 78 = .ok (.aload_n 0, 1) := by decide +kernel
theorem dX11_call_79 : decode cX11_call 79 = .ok (.getfield 73, 3) := by decide +kernel
theorem dX11_call_82 : decode cX11_call 82 = .ok (.iload_n 1, 1) := by decide +kernel
theorem dX11_call_83 : decode cX11_call 83 = .ok (.iconst 1, 1) := by decide +kernel
theorem dX11_call_84 : decode cX11_call 84 = .ok (.bastore, 1) := by decide +kernel
theorem dX11_call_85 : decode cX11_call 85 = .ok (.iconst 0, 1) := by decide +kernel
theorem dX11_call_86 : decode cX11_call 86 = .ok (.ireturn, 1) := by decide +kernel
theorem dX11_crash_0 : decode cX11_crash 0 = .ok (.aload_n 0, 1) := by decide +kernel
theorem dX11_crash_1 : decode cX11_crash 1 = .ok (.iconst 0, 1) := by decide +kernel
theorem dX11_crash_2 : decode cX11_crash 2 = .ok (.putfield 1, 3) := by decide +kernel
theorem dX11_crash_5 : decode cX11_crash 5 = .ok (.aload_n 0, 1) := by decide +kernel
theorem dX11_crash_6 : decode cX11_crash 6 = .ok (.getfield 15, 3) := by decide +kernel
theorem dX11_crash_9 : decode cX11_crash 9 = .ok (.ifCond .ne 5, 3) := by decide +kernel
theorem dX11_crash_12 : decode cX11_crash 12 = .ok (.iconst 0, 1) := by decide +kernel
theorem dX11_crash_13 : decode cX11_crash 13 = .ok (.ireturn, 1) := by decide +kernel
theorem dX11_crash_14 : decode cX11_crash 14 = .ok (.aload_n 0, 1) := by decide +kernel
theorem dX11_crash_15 : decode cX11_crash 15 = .ok (.invokevirtual 149, 3) := by decide +kernel
theorem dX11_crash_18 : decode cX11_crash 18 = .ok (.iconst 1, 1) := by decide +kernel
theorem dX11_crash_19 : decode cX11_crash 19 = .ok (.ireturn, 1) := by decide +kernel
theorem dX11_hang_0 : decode cX11_hang 0 = .ok (.aload_n 0, 1) := by decide +kernel
theorem dX11_hang_1 : decode cX11_hang 1 = .ok (.iconst 0, 1) := by decide +kernel
theorem dX11_hang_2 : decode cX11_hang 2 = .ok (.putfield 1, 3) := by decide +kernel
theorem dX11_hang_5 : decode cX11_hang 5 = .ok (.aload_n 0, 1) := by decide +kernel
theorem dX11_hang_6 : decode cX11_hang 6 = .ok (.getfield 15, 3) := by decide +kernel
theorem dX11_hang_9 : decode cX11_hang 9 = .ok (.ifCond .eq 10, 3) := by decide +kernel
theorem dX11_hang_12 : decode cX11_hang 12 = .ok (.aload_n 0, 1) := by decide +kernel
theorem dX11_hang_13 : decode cX11_hang 13 = .ok (.getfield 119, 3) := by decide +kernel
theorem dX11_hang_16 : decode cX11_hang 16 = .ok (.ifCond .eq 5, 3) := by decide +kernel
theorem dX11_hang_19 : decode cX11_hang 19 = .ok (.iconst 0, 1) := by decide +kernel
theorem dX11_hang_20 : decode cX11_hang 20 = .ok (.ireturn, 1) := by decide +kernel
theorem dX11_hang_21 : decode cX11_hang 21 = .ok (.aload_n 0, 1) := by decide +kernel
theorem dX11_hang_22 : decode cX11_hang 22 = .ok (.iconst 1, 1) := by decide +kernel
theorem dX11_hang_23 : decode cX11_hang 23 = .ok (.putfield 119, 3) := by decide +kernel
theorem dX11_hang_26 : decode cX11_hang 26 = .ok (.iconst 1, 1) := by decide +kernel
theorem dX11_hang_27 : decode cX11_hang 27 = .ok (.ireturn, 1) := by decide +kernel
theorem dX11_isPart_0 : decode cX11_isPart 0 = .ok (.iload_n 0, 1) := by decide +kernel
theorem dX11_isPart_1 : decode cX11_isPart 1 = .ok (.ifCond .lt 13, 3) := by decide +kernel
theorem dX11_isPart_4 : decode cX11_isPart 4 = .ok (.iload_n 0, 1) := by decide +kernel
theorem dX11_isPart_5 : decode cX11_isPart 5 = .ok (.bipush 12, 2) := by decide +kernel
theorem dX11_isPart_7 : decode cX11_isPart 7 = .ok (.if_icmp .ge 7, 3) := by decide +kernel
theorem dX11_isPart_10 : decode cX11_isPart 10 = .ok (.iconst 1, 1) := by decide +kernel
theorem dX11_isPart_11 : decode cX11_isPart 11 = .ok (.goto 4, 3) := by decide +kernel
theorem dX11_isPart_14 : decode cX11_isPart 14 = .ok (.iconst 0, 1) := by decide +kernel
theorem dX11_isPart_15 : decode cX11_isPart 15 = .ok (.ireturn, 1) := by decide +kernel
theorem dX11_force_0 : decode cX11_force 0 = .ok (.aload_n 0, 1) := by decide +kernel
theorem dX11_force_1 : decode cX11_force 1 = .ok (.iconst 0, 1) := by decide +kernel
theorem dX11_force_2 : decode cX11_force 2 = .ok (.putfield 1, 3) := by decide +kernel
theorem dX11_force_5 : decode cX11_force 5 = .ok (.iload_n 1, 1) := by decide +kernel
theorem dX11_force_6 : decode cX11_force 6 = .ok (.invokestatic 284, 3) := by decide +kernel
theorem dX11_force_9 : decode cX11_force 9 = .ok (.ifCond .eq 18, 3) := by decide +kernel
theorem dX11_force_12 : decode cX11_force 12 = .ok (.iload_n 2, 1) := by decide +kernel
theorem dX11_force_13 : decode cX11_force 13 = .ok (.invokestatic 284, 3) := by decide +kernel
theorem dX11_force_16 : decode cX11_force 16 = .ok (.ifCond .eq 11, 3) := by decide +kernel
theorem dX11_force_19 : decode cX11_force 19 = .ok (.aload_n 0, 1) := by decide +kernel
theorem dX11_force_20 : decode cX11_force 20 = .ok (.iload_n 1, 1) := by decide +kernel
theorem dX11_force_21 : decode cX11_force 21 = .ok (.invokevirtual 29, 3) := by decide +kernel
theorem dX11_force_24 : decode cX11_force 24 = .ok (.ifCond .ne 5, 3) := by decide +kernel
theorem dX11_force_27 : decode cX11_force 27 = .ok (.iconst (-1), 1) := by decide +kernel
theorem dX11_force_28 : decode cX11_force 28 = .ok (.ireturn, 1) := by decide +kernel
theorem dX11_force_29 : decode cX11_force 29 = .ok (.aload_n 0, 1) := by decide +kernel
theorem dX11_force_30 : decode cX11_force 30 = .ok (.iconst 0, 1) := by decide +kernel
theorem dX11_force_31 : decode cX11_force 31 = .ok (.iconst 0, 1) := by decide +kernel
theorem dX11_force_32 : decode cX11_force 32 = .ok (.iconst 0, 1) := by decide +kernel
theorem dX11_force_33 : decode cX11_force 33 = .ok (.invokevirtual 152, 3) := by decide +kernel
theorem dX11_force_36 : decode cX11_force 36 = .ok (.aload_n 0, 1) := by decide +kernel
theorem dX11_force_37 : decode cX11_force 37 = .ok (.iload_n 1, 1) := by decide +kernel
theorem dX11_force_38 : decode cX11_force 38 = .ok (.iload_n 2, 1) := by decide +kernel
theorem dX11_force_39 : decode cX11_force 39 = .ok (.iconst 0, 1) := by decide +kernel
theorem dX11_force_40 : decode cX11_force 40 = .ok (.invokevirtual 47, 3) := by decide +kernel
theorem dX11_force_43 : decode cX11_force 43 = .ok (.ireturn, 1) := by decide +kernel
theorem dX11_user_0 : decode cX11_user 0 = .ok (.aload_n 0, 1) := by decide +kernel
theorem dX11_user_1 : decode cX11_user 1 = .ok (.iload_n 1, 1) := by decide +kernel
theorem dX11_user_2 : decode cX11_user 2 = .ok (.invokestatic 11, 3) := by decide +kernel
theorem dX11_user_5 : decode cX11_user 5 = .ok (.ifCond .eq 17, 3) := by decide +kernel
theorem dX11_user_8 : decode cX11_user 8 = .ok (.iload_n 2, 1) := by decide +kernel
theorem dX11_user_9 : decode cX11_user 9 = .ok (.ifCond .lt 13, 3) := by decide +kernel
theorem dX11_user_12 : decode cX11_user 12 = .ok (.iload_n 2, 1) := by decide +kernel
theorem dX11_user_13 : decode cX11_user 13 = .ok (.bipush 6, 2) := by decide +kernel
theorem dX11_user_15 : decode cX11_user 15 = .ok (.if_icmp .gt 7, 3) := by decide +kernel
theorem dX11_user_18 : decode cX11_user 18 = .ok (.iconst 0, 1) := by decide +kernel
theorem dX11_user_19 : decode cX11_user 19 = .ok (.goto 4, 3) := by decide +kernel
theorem dX11_user_22 : decode cX11_user 22 = .ok (.iconst 1, 1) := by decide +kernel
theorem dX11_user_23 : decode cX11_user 23 = .ok (.putfield 1, 3) := by decide +kernel
theorem dX11_user_26 : decode cX11_user 26 = .ok (.aload_n 0, 1) := by decide +kernel
theorem dX11_user_27 : decode cX11_user 27 = .ok (.getfield 1, 3) := by decide +kernel
theorem dX11_user_30 : decode cX11_user 30 = .ok (.ifCond .le 5, 3) := by decide +kernel
theorem dX11_user_33 : decode cX11_user 33 = .ok (.iconst 0, 1) := by decide +kernel
theorem dX11_user_34 : decode cX11_user 34 = .ok (.ireturn, 1) := by decide +kernel
theorem dX11_user_35 : decode cX11_user 35 = .ok (.iconst 0, 1) := by decide +kernel
theorem dX11_user_36 : decode cX11_user 36 = .ok (.istore_n 3, 1) := by decide +kernel
theorem dX11_user_37 : decode cX11_user 37 = .ok (.iconst 0, 1) := by decide +kernel
theorem dX11_user_38 : decode cX11_user 38 = .ok (.istore 4, 2) := by decide +kernel
theorem dX11_user_40 : decode cX11_user 40 = .ok (.iload 4, 2) := by decide +kernel
theorem dX11_user_42 : decode cX11_user 42 = .ok (.iconst 4, 1) := by decide +kernel
theorem dX11_user_43 : decode cX11_user 43 = .ok (.if_icmp .ge 31, 3) := by decide +kernel
theorem dX11_user_46 : decode cX11_user 46 = .ok (.iload_n 3, 1) := by decide +kernel
theorem dX11_user_47 : decode cX11_user 47 = .ok (.aload_n 0, 1) := by decide +kernel
theorem dX11_user_48 : decode cX11_user 48 = .ok (.getfield 92, 3) := by decide +kernel
theorem dX11_user_51 : decode cX11_user 51 = .ok (.iconst 4, 1) := by decide +kernel
theorem dX11_user_52 : decode cX11_user 52 = .ok (.iload_n 1, 1) := by decide +kernel
theorem dX11_user_53 : decode cX11_user 53 = .ok (.imul, 1) := by decide +kernel
theorem dX11_user_54 : decode cX11_user 54 = .ok (.iload 4, 2) := by decide +kernel
theorem dX11_user_56 : decode cX11_user 56 = .ok (.iadd, 1) := by decide +kernel
theorem dX11_user_57 : decode cX11_user 57 = .ok (.iaload, 1) := by decide +kernel
theorem dX11_user_58 : decode cX11_user 58 = .ok (.ifCond .lt 7, 3) := by decide +kernel
theorem dX11_user_61 : decode cX11_user 61 = .ok (.iconst 1, 1) := by decide +kernel
theorem dX11_user_62 : decode cX11_user 62 = .ok (.goto 4, 3) := by decide +kernel
theorem dX11_user_65 : decode cX11_user 65 = .ok (.iconst 0, 1) := by decide +kernel
theorem dX11_user_66 : decode cX11_user 66 = .ok (.iadd, 1) := by decide +kernel
theorem dX11_user_67 : decode cX11_user 67 = .ok (.istore_n 3, 1) := by decide +kernel
theorem dX11_user_68 : decode cX11_user 68 = .ok (.iinc 4 1, 3) := by decide +kernel
theorem dX11_user_71 : decode cX11_user 71 = .ok (.goto (-31), 3) := by decide +kernel
theorem dX11_user_74 : decode cX11_user 74 = .ok (.iload_n 2, 1) := by decide +kernel
theorem dX11_user_75 : decode cX11_user 75 = .ok (.tableswitch 87 0 5 #[37, 44, 59, 66, 73, 80], 37) := by decide +kernel
theorem dX11_user_112 : decode cX11_user 112 = .ok (.aload_n 0, 1) := by decide +kernel
theorem dX11_user_113 : decode cX11_user 113 = .ok (.getfield 19, 3) := by decide +kernel
theorem dX11_user_116 : decode cX11_user 116 = .ok (.iload_n 1, 1) := by decide +kernel
theorem dX11_user_117 : decode cX11_user 117 = .ok (.iaload, 1) := by decide +kernel
theorem dX11_user_118 : decode cX11_user 118 = .ok (.ireturn, 1) := by decide +kernel
theorem dX11_user_119 : decode cX11_user 119 = .ok (.aload_n 0, 1) := by decide +kernel
theorem dX11_user_120 : decode cX11_user 120 = .ok (.getfield 73, 3) := by decide +kernel
theorem dX11_user_123 : decode cX11_user 123 = .ok (.iload_n 1, 1) := by decide +kernel
theorem dX11_user_124 : decode cX11_user 124 = .ok (.baload, 1) := by decide +kernel
theorem dX11_user_125 : decode cX11_user 125 = .ok (.ifCond .eq 7, 3) := by decide +kernel
theorem dX11_user_128 : decode cX11_user 128 = .ok (.iconst 1, 1) := by decide +kernel
theorem dX11_user_129 : decode cX11_user 129 = .ok (.goto 4, 3) := by decide +kernel
theorem dX11_user_132 : decode cX11_user 132 = .ok (.iconst 0, 1) := by decide +kernel
theorem dX11_user_133 : decode cX11_user 133 = .ok (.ireturn, 1) := by decide +kernel
theorem dX11_user_134 : decode cX11_user 134 = .ok (.aload_n 0, 1) := by decide +kernel
theorem dX11_user_135 : decode cX11_user 135 = .ok (.getfield 77, 3) := by decide +kernel
theorem dX11_user_138 : decode cX11_user 138 = .ok (.iload_n 1, 1) := by decide +kernel
theorem dX11_user_139 : decode cX11_user 139 = .ok (.iaload, 1) := by decide +kernel
theorem dX11_user_140 : decode cX11_user 140 = .ok (.ireturn, 1) := by decide +kernel
theorem dX11_user_141 : decode cX11_user 141 = .ok (.aload_n 0, 1) := by decide +kernel
theorem dX11_user_142 : decode cX11_user 142 = .ok (.getfield 80, 3) := by decide +kernel
theorem dX11_user_145 : decode cX11_user 145 = .ok (.iload_n 1, 1) := by decide +kernel
theorem dX11_user_146 : decode cX11_user 146 = .ok (.iaload, 1) := by decide +kernel
theorem dX11_user_147 : decode cX11_user 147 = .ok (.ireturn, 1) := by decide +kernel
theorem dX11_user_148 : decode cX11_user 148 = .ok (.aload_n 0, 1) := by decide +kernel
theorem dX11_user_149 : decode cX11_user 149 = .ok (.getfield 83, 3) := by decide +kernel
theorem dX11_user_152 : decode cX11_user 152 = .ok (.iload_n 1, 1) := by decide +kernel
theorem dX11_user_153 : decode cX11_user 153 = .ok (.iaload, 1) := by decide +kernel
theorem dX11_user_154 : decode cX11_user 154 = .ok (.ireturn, 1) := by decide +kernel
theorem dX11_user_155 : decode cX11_user 155 = .ok (.aload_n 0, 1) := by decide +kernel
theorem dX11_user_156 : decode cX11_user 156 = .ok (.getfield 86, 3) := by decide +kernel
theorem dX11_user_159 : decode cX11_user 159 = .ok (.iload_n 1, 1) := by decide +kernel
theorem dX11_user_160 : decode cX11_user 160 = .ok (.iaload, 1) := by decide +kernel
theorem dX11_user_161 : decode cX11_user 161 = .ok (.ireturn, 1) := by decide +kernel
theorem dX11_user_162 : decode cX11_user 162 = .ok (.iload_n 3, 1) := by decide +kernel
theorem dX11_user_163 : decode cX11_user 163 = .ok (.ireturn, 1) := by decide +kernel
theorem dX11_descriptor_0 : decode cX11_descriptor 0 = .ok (.aload_n 0, 1) := by decide +kernel
theorem dX11_descriptor_1 : decode cX11_descriptor 1 = .ok (.iconst 0, 1) := by decide +kernel
theorem dX11_descriptor_2 : decode cX11_descriptor 2 = .ok (.putfield 1, 3) := by decide +kernel
theorem dX11_descriptor_5 : decode cX11_descriptor 5 = .ok (.iload_n 1, 1) := by decide +kernel
theorem dX11_descriptor_6 : decode cX11_descriptor 6 = .ok (.invokestatic 11, 3) := by decide +kernel
theorem dX11_descriptor_9 : decode cX11_descriptor 9 = .ok (.ifCond .eq 25, 3) := by decide +kernel
theorem dX11_descriptor_12 : decode cX11_descriptor 12 = .ok (.iload_n 2, 1) := by decide +kernel
theorem dX11_descriptor_13 : decode cX11_descriptor 13 = .ok (.ifCond .lt 21, 3) := by decide +kernel
theorem dX11_descriptor_16 : decode cX11_descriptor 16 = .ok (.iload_n 2, 1) := by decide +kernel
theorem dX11_descriptor_17 : decode cX11_descriptor 17 = .ok (.iconst 3, 1) := by decide +kernel
theorem dX11_descriptor_18 : decode cX11_descriptor 18 = .ok (.if_icmp .gt 16, 3) := by decide +kernel
theorem dX11_descriptor_21 : decode cX11_descriptor 21 = .ok (.aload_n 0, 1) := by decide +kernel
theorem dX11_descriptor_22 : decode cX11_descriptor 22 = .ok (.getfield 92, 3) := by decide +kernel
theorem dX11_descriptor_25 : decode cX11_descriptor 25 = .ok (.iconst 4, 1) := by decide +kernel
theorem dX11_descriptor_26 : decode cX11_descriptor 26 = .ok (.iload_n 1, 1) := by decide +kernel
theorem dX11_descriptor_27 : decode cX11_descriptor 27 = .ok (.imul, 1) := by decide +kernel
theorem dX11_descriptor_28 : decode cX11_descriptor 28 = .ok (.iload_n 2, 1) := by decide +kernel
theorem dX11_descriptor_29 : decode cX11_descriptor 29 = .ok (.iadd, 1) := by decide +kernel
theorem dX11_descriptor_30 : decode cX11_descriptor 30 = .ok (.iaload, 1) := by decide +kernel
theorem dX11_descriptor_31 : decode cX11_descriptor 31 = .ok (.ifCond .ge 5, 3) := by decide +kernel
theorem dX11_descriptor_34 : decode cX11_descriptor 34 = .ok (.iconst (-1), 1) := by decide +kernel
theorem dX11_descriptor_35 : decode cX11_descriptor 35 = .ok (.ireturn, 1) := by decide +kernel
theorem dX11_descriptor_36 : decode cX11_descriptor 36 = .ok (.iload_n 3, 1) := by decide +kernel
theorem dX11_descriptor_37 : decode cX11_descriptor 37 = .ok (.ifCond .ne 16, 3) := by decide +kernel
theorem dX11_descriptor_40 : decode cX11_descriptor 40 = .ok (.aload_n 0, 1) := by decide +kernel
theorem dX11_descriptor_41 : decode cX11_descriptor 41 = .ok (.getfield 92, 3) := by decide +kernel
theorem dX11_descriptor_44 : decode cX11_descriptor 44 = .ok (.iconst 4, 1) := by decide +kernel
theorem dX11_descriptor_45 : decode cX11_descriptor 45 = .ok (.iload_n 1, 1) := by decide +kernel
theorem dX11_descriptor_46 : decode cX11_descriptor 46 = .ok (.imul, 1) := by decide +kernel
theorem dX11_descriptor_47 : decode cX11_descriptor 47 = .ok (.iload_n 2, 1) := by decide +kernel
theorem dX11_descriptor_48 : decode cX11_descriptor 48 = .ok (.iadd, 1) := by decide +kernel
theorem dX11_descriptor_49 : decode cX11_descriptor 49 = .ok (.iaload, 1) := by decide +kernel
theorem dX11_descriptor_50 : decode cX11_descriptor 50 = .ok (.goto 22, 3) := by decide +kernel
theorem dX11_descriptor_53 : decode cX11_descriptor 53 = .ok (.iload_n 3, 1) := by decide +kernel
theorem dX11_descriptor_54 : decode cX11_descriptor 54 = .ok (.iconst 1, 1) := by decide +kernel
theorem dX11_descriptor_55 : decode cX11_descriptor 55 = .ok (.if_icmp .ne 16, 3) := by decide +kernel
theorem dX11_descriptor_58 : decode cX11_descriptor 58 = .ok (.aload_n 0, 1) := by decide +kernel
theorem dX11_descriptor_59 : decode cX11_descriptor 59 = .ok (.getfield 95, 3) := by decide +kernel
theorem dX11_descriptor_62 : decode cX11_descriptor 62 = .ok (.iconst 4, 1) := by decide +kernel
theorem dX11_descriptor_63 : decode cX11_descriptor 63 = .ok (.iload_n 1, 1) := by decide +kernel
theorem dX11_descriptor_64 : decode cX11_descriptor 64 = .ok (.imul, 1) := by decide +kernel
theorem dX11_descriptor_65 : decode cX11_descriptor 65 = .ok (.iload_n 2, 1) := by decide +kernel
theorem dX11_descriptor_66 : decode cX11_descriptor 66 = .ok (.iadd, 1) := by decide +kernel
theorem dX11_descriptor_67 : decode cX11_descriptor 67 = .ok (.iaload, 1) := by decide +kernel
theorem dX11_descriptor_68 : decode cX11_descriptor 68 = .ok (.goto 4, 3) := by decide +kernel
theorem dX11_descriptor_71 : decode cX11_descriptor 71 = .ok (.iconst (-1), 1) := by decide +kernel
theorem dX11_descriptor_72 : decode cX11_descriptor 72 = .ok (.ireturn, 1) := by decide +kernel
theorem dX11_file_0 : decode cX11_file 0 = .ok (.aload_n 0, 1) := by decide +kernel
theorem dX11_file_1 : decode cX11_file 1 = .ok (.iconst 0, 1) := by decide +kernel
theorem dX11_file_2 : decode cX11_file 2 = .ok (.putfield 1, 3) := by decide +kernel
theorem dX11_file_5 : decode cX11_file 5 = .ok (.iload_n 1, 1) := by decide +kernel
theorem dX11_file_6 : decode cX11_file 6 = .ok (.ifCond .lt 27, 3) := by decide +kernel
theorem dX11_file_9 : decode cX11_file 9 = .ok (.iload_n 1, 1) := by decide +kernel
theorem dX11_file_10 : decode cX11_file 10 = .ok (.bipush 15, 2) := by decide +kernel
theorem dX11_file_12 : decode cX11_file 12 = .ok (.if_icmp .gt 21, 3) := by decide +kernel
theorem dX11_file_15 : decode cX11_file 15 = .ok (.aload_n 0, 1) := by decide +kernel
theorem dX11_file_16 : decode cX11_file 16 = .ok (.getfield 98, 3) := by decide +kernel
theorem dX11_file_19 : decode cX11_file 19 = .ok (.iload_n 1, 1) := by decide +kernel
theorem dX11_file_20 : decode cX11_file 20 = .ok (.baload, 1) := by decide +kernel
theorem dX11_file_21 : decode cX11_file 21 = .ok (.ifCond .eq 12, 3) := by decide +kernel
theorem dX11_file_24 : decode cX11_file 24 = .ok (.iload_n 2, 1) := by decide +kernel
theorem dX11_file_25 : decode cX11_file 25 = .ok (.ifCond .lt 8, 3) := by decide +kernel
theorem dX11_file_28 : decode cX11_file 28 = .ok (.iload_n 2, 1) := by decide +kernel
theorem dX11_file_29 : decode cX11_file 29 = .ok (.iconst 4, 1) := by decide +kernel
theorem dX11_file_30 : decode cX11_file 30 = .ok (.if_icmp .le 5, 3) := by decide +kernel
theorem dX11_file_33 : decode cX11_file 33 = .ok (.iconst (-1), 1) := by decide +kernel
theorem dX11_file_34 : decode cX11_file 34 = .ok (.ireturn, 1) := by decide +kernel
theorem dX11_file_35 : decode cX11_file 35 = .ok (.iload_n 2, 1) := by decide +kernel
theorem dX11_file_36 : decode cX11_file 36 = .ok (.ifCond .ne 12, 3) := by decide +kernel
theorem dX11_file_39 : decode cX11_file 39 = .ok (.aload_n 0, 1) := by decide +kernel
theorem dX11_file_40 : decode cX11_file 40 = .ok (.getfield 101, 3) := by decide +kernel
theorem dX11_file_43 : decode cX11_file 43 = .ok (.iload_n 1, 1) := by decide +kernel
theorem dX11_file_44 : decode cX11_file 44 = .ok (.iaload, 1) := by decide +kernel
theorem dX11_file_45 : decode cX11_file 45 = .ok (.goto 34, 3) := by decide +kernel
theorem dX11_file_48 : decode cX11_file 48 = .ok (.bipush 8, 2) := by decide +kernel
theorem dX11_file_50 : decode cX11_file 50 = .ok (.iload_n 2, 1) := by decide +kernel
theorem dX11_file_51 : decode cX11_file 51 = .ok (.iconst 1, 1) := by decide +kernel
theorem dX11_file_52 : decode cX11_file 52 = .ok (.isub, 1) := by decide +kernel
theorem dX11_file_53 : decode cX11_file 53 = .ok (.imul, 1) := by decide +kernel
theorem dX11_file_54 : decode cX11_file 54 = .ok (.aload_n 0, 1) := by decide +kernel
theorem dX11_file_55 : decode cX11_file 55 = .ok (.getfield 101, 3) := by decide +kernel
theorem dX11_file_58 : decode cX11_file 58 = .ok (.iload_n 1, 1) := by decide +kernel
theorem dX11_file_59 : decode cX11_file 59 = .ok (.iaload, 1) := by decide +kernel
theorem dX11_file_60 : decode cX11_file 60 = .ok (.if_icmp .ge 18, 3) := by decide +kernel
theorem dX11_file_63 : decode cX11_file 63 = .ok (.aload_n 0, 1) := by decide +kernel
theorem dX11_file_64 : decode cX11_file 64 = .ok (.getfield 104, 3) := by decide +kernel
theorem dX11_file_67 : decode cX11_file 67 = .ok (.iconst 4, 1) := by decide +kernel
theorem dX11_file_68 : decode cX11_file 68 = .ok (.iload_n 1, 1) := by decide +kernel
theorem dX11_file_69 : decode cX11_file 69 = .ok (.imul, 1) := by decide +kernel
theorem dX11_file_70 : decode cX11_file 70 = .ok (.iload_n 2, 1) := by decide +kernel
theorem dX11_file_71 : decode cX11_file 71 = .ok (.iadd, 1) := by decide +kernel
theorem dX11_file_72 : decode cX11_file 72 = .ok (.iconst 1, 1) := by decide +kernel
theorem dX11_file_73 : decode cX11_file 73 = .ok (.isub, 1) := by decide +kernel
theorem dX11_file_74 : decode cX11_file 74 = .ok (.iaload, 1) := by decide +kernel
theorem dX11_file_75 : decode cX11_file 75 = .ok (.goto 4, 3) := by decide +kernel
theorem dX11_file_78 : decode cX11_file 78 = .ok (.iconst (-1), 1) := by decide +kernel
theorem dX11_file_79 : decode cX11_file 79 = .ok (.ireturn, 1) := by decide +kernel
theorem dX11_disk_0 : decode cX11_disk 0 = .ok (.aload_n 0, 1) := by decide +kernel
theorem dX11_disk_1 : decode cX11_disk 1 = .ok (.iload_n 1, 1) := by decide +kernel
theorem dX11_disk_2 : decode cX11_disk 2 = .ok (.ifCond .lt 23, 3) := by decide +kernel
theorem dX11_disk_5 : decode cX11_disk 5 = .ok (.iload_n 1, 1) := by decide +kernel
theorem dX11_disk_6 : decode cX11_disk 6 = .ok (.bipush 24, 2) := by decide +kernel
theorem dX11_disk_8 : decode cX11_disk 8 = .ok (.if_icmp .ge 17, 3) := by decide +kernel
theorem dX11_disk_11 : decode cX11_disk 11 = .ok (.iload_n 2, 1) := by decide +kernel
theorem dX11_disk_12 : decode cX11_disk 12 = .ok (.ifCond .lt 13, 3) := by decide +kernel
theorem dX11_disk_15 : decode cX11_disk 15 = .ok (.iload_n 2, 1) := by decide +kernel
theorem dX11_disk_16 : decode cX11_disk 16 = .ok (.bipush 8, 2) := by decide +kernel
theorem dX11_disk_18 : decode cX11_disk 18 = .ok (.if_icmp .ge 7, 3) := by decide +kernel
theorem dX11_disk_21 : decode cX11_disk 21 = .ok (.iconst 0, 1) := by decide +kernel
theorem dX11_disk_22 : decode cX11_disk 22 = .ok (.goto 4, 3) := by decide +kernel
theorem dX11_disk_25 : decode cX11_disk 25 = .ok (.iconst 1, 1) := by decide +kernel
theorem dX11_disk_26 : decode cX11_disk 26 = .ok (.putfield 1, 3) := by decide +kernel
theorem dX11_disk_29 : decode cX11_disk 29 = .ok (.aload_n 0, 1) := by decide +kernel
theorem dX11_disk_30 : decode cX11_disk 30 = .ok (.getfield 1, 3) := by decide +kernel
theorem dX11_disk_33 : decode cX11_disk 33 = .ok (.ifCond .le 7, 3) := by decide +kernel
theorem dX11_disk_36 : decode cX11_disk 36 = .ok (.iconst 0, 1) := by decide +kernel
theorem dX11_disk_37 : decode cX11_disk 37 = .ok (.goto 14, 3) := by decide +kernel
theorem dX11_disk_40 : decode cX11_disk 40 = .ok (.aload_n 0, 1) := by decide +kernel
theorem dX11_disk_41 : decode cX11_disk 41 = .ok (.getfield 110, 3) := by decide +kernel
theorem dX11_disk_44 : decode cX11_disk 44 = .ok (.bipush 8, 2) := by decide +kernel
theorem dX11_disk_46 : decode cX11_disk 46 = .ok (.iload_n 1, 1) := by decide +kernel
theorem dX11_disk_47 : decode cX11_disk 47 = .ok (.imul, 1) := by decide +kernel
theorem dX11_disk_48 : decode cX11_disk 48 = .ok (.iload_n 2, 1) := by decide +kernel
theorem dX11_disk_49 : decode cX11_disk 49 = .ok (.iadd, 1) := by decide +kernel
theorem dX11_disk_50 : decode cX11_disk 50 = .ok (.iaload, 1) := by decide +kernel
theorem dX11_disk_51 : decode cX11_disk 51 = .ok (.ireturn, 1) := by decide +kernel
theorem dX11_inbox_0 : decode cX11_inbox 0 = .ok (.aload_n 0, 1) := by decide +kernel
theorem dX11_inbox_1 : decode cX11_inbox 1 = .ok (.iconst 0, 1) := by decide +kernel
theorem dX11_inbox_2 : decode cX11_inbox 2 = .ok (.putfield 1, 3) := by decide +kernel
theorem dX11_inbox_5 : decode cX11_inbox 5 = .ok (.iload_n 1, 1) := by decide +kernel
theorem dX11_inbox_6 : decode cX11_inbox 6 = .ok (.invokestatic 284, 3) := by decide +kernel
theorem dX11_inbox_9 : decode cX11_inbox 9 = .ok (.ifCond .eq 12, 3) := by decide +kernel
theorem dX11_inbox_12 : decode cX11_inbox 12 = .ok (.aload_n 0, 1) := by decide +kernel
theorem dX11_inbox_13 : decode cX11_inbox 13 = .ok (.getfield 38, 3) := by decide +kernel
theorem dX11_inbox_16 : decode cX11_inbox 16 = .ok (.iload_n 1, 1) := by decide +kernel
theorem dX11_inbox_17 : decode cX11_inbox 17 = .ok (.iaload, 1) := by decide +kernel
theorem dX11_inbox_18 : decode cX11_inbox 18 = .ok (.goto 4, 3) := by decide +kernel
theorem dX11_inbox_21 : decode cX11_inbox 21 = .ok (.iconst (-1), 1) := by decide +kernel
theorem dX11_inbox_22 : decode cX11_inbox 22 = .ok (.ireturn, 1) := by decide +kernel
theorem dX11_message_0 : decode cX11_message 0 = .ok (.aload_n 0, 1) := by decide +kernel
theorem dX11_message_1 : decode cX11_message 1 = .ok (.iconst 0, 1) := by decide +kernel
theorem dX11_message_2 : decode cX11_message 2 = .ok (.putfield 1, 3) := by decide +kernel
theorem dX11_message_5 : decode cX11_message 5 = .ok (.iload_n 1, 1) := by decide +kernel
theorem dX11_message_6 : decode cX11_message 6 = .ok (.invokestatic 284, 3) := by decide +kernel
theorem dX11_message_9 : decode cX11_message 9 = .ok (.ifCond .eq 26, 3) := by decide +kernel
theorem dX11_message_12 : decode cX11_message 12 = .ok (.iload_n 2, 1) := by decide +kernel
theorem dX11_message_13 : decode cX11_message 13 = .ok (.ifCond .lt 22, 3) := by decide +kernel
theorem dX11_message_16 : decode cX11_message 16 = .ok (.iload_n 2, 1) := by decide +kernel
theorem dX11_message_17 : decode cX11_message 17 = .ok (.aload_n 0, 1) := by decide +kernel
theorem dX11_message_18 : decode cX11_message 18 = .ok (.getfield 38, 3) := by decide +kernel
theorem dX11_message_21 : decode cX11_message 21 = .ok (.iload_n 1, 1) := by decide +kernel
theorem dX11_message_22 : decode cX11_message 22 = .ok (.iaload, 1) := by decide +kernel
theorem dX11_message_23 : decode cX11_message 23 = .ok (.if_icmp .ge 12, 3) := by decide +kernel
theorem dX11_message_26 : decode cX11_message 26 = .ok (.iload_n 3, 1) := by decide +kernel
theorem dX11_message_27 : decode cX11_message 27 = .ok (.ifCond .lt 8, 3) := by decide +kernel
theorem dX11_message_30 : decode cX11_message 30 = .ok (.iload_n 3, 1) := by decide +kernel
theorem dX11_message_31 : decode cX11_message 31 = .ok (.iconst 4, 1) := by decide +kernel
theorem dX11_message_32 : decode cX11_message 32 = .ok (.if_icmp .le 5, 3) := by decide +kernel
theorem dX11_message_35 : decode cX11_message 35 = .ok (.iconst (-1), 1) := by decide +kernel
theorem dX11_message_36 : decode cX11_message 36 = .ok (.ireturn, 1) := by decide +kernel
theorem dX11_message_37 : decode cX11_message 37 = .ok (.aload_n 0, 1) := by decide +kernel
theorem dX11_message_38 : decode cX11_message 38 = .ok (.iload_n 1, 1) := by decide +kernel
theorem dX11_message_39 : decode cX11_message 39 = .ok (.iload_n 2, 1) := by decide +kernel
theorem dX11_message_40 : decode cX11_message 40 = .ok (.iload_n 3, 1) := by decide +kernel
theorem dX11_message_41 : decode cX11_message 41 = .ok (.invokevirtual 156, 3) := by decide +kernel
theorem dX11_message_44 : decode cX11_message 44 = .ok (.ireturn, 1) := by decide +kernel
theorem dX11_count_0 : decode cX11_count 0 = .ok (.aload_n 0, 1) := by decide +kernel
theorem dX11_count_1 : decode cX11_count 1 = .ok (.iconst 0, 1) := by decide +kernel
theorem dX11_count_2 : decode cX11_count 2 = .ok (.putfield 1, 3) := by decide +kernel
theorem dX11_count_5 : decode cX11_count 5 = .ok (.iconst 0, 1) := by decide +kernel
theorem dX11_count_6 : decode cX11_count 6 = .ok (.istore_n 2, 1) := by decide +kernel
theorem dX11_count_7 : decode cX11_count 7 = .ok (.iconst 0, 1) := by decide +kernel
theorem dX11_count_8 : decode cX11_count 8 = .ok (.istore_n 3, 1) := by decide +kernel
theorem dX11_count_9 : decode cX11_count 9 = .ok (.iload_n 3, 1) := by decide +kernel
theorem dX11_count_10 : decode cX11_count 10 = .ok (.bipush 24, 2) := by decide +kernel
theorem dX11_count_12 : decode cX11_count 12 = .ok (.if_icmp .ge 26, 3) := by decide +kernel
theorem dX11_count_15 : decode cX11_count 15 = .ok (.iload_n 2, 1) := by decide +kernel
theorem dX11_count_16 : decode cX11_count 16 = .ok (.aload_n 0, 1) := by decide +kernel
theorem dX11_count_17 : decode cX11_count 17 = .ok (.getfield 107, 3) := by decide +kernel
theorem dX11_count_20 : decode cX11_count 20 = .ok (.iload_n 3, 1) := by decide +kernel
theorem dX11_count_21 : decode cX11_count 21 = .ok (.baload, 1) := by decide +kernel
theorem dX11_count_22 : decode cX11_count 22 = .ok (.ifCond .eq 7, 3) := by decide +kernel
theorem dX11_count_25 : decode cX11_count 25 = .ok (.iconst 0, 1) := by decide +kernel
theorem dX11_count_26 : decode cX11_count 26 = .ok (.goto 4, 3) := by decide +kernel
theorem dX11_count_29 : decode cX11_count 29 = .ok (.iconst 1, 1) := by decide +kernel
theorem dX11_count_30 : decode cX11_count 30 = .ok (.iadd, 1) := by decide +kernel
theorem dX11_count_31 : decode cX11_count 31 = .ok (.istore_n 2, 1) := by decide +kernel
theorem dX11_count_32 : decode cX11_count 32 = .ok (.iinc 3 1, 3) := by decide +kernel
theorem dX11_count_35 : decode cX11_count 35 = .ok (.goto (-26), 3) := by decide +kernel
theorem dX11_count_38 : decode cX11_count 38 = .ok (.iconst 0, 1) := by decide +kernel
theorem dX11_count_39 : decode cX11_count 39 = .ok (.istore_n 3, 1) := by decide +kernel
theorem dX11_count_40 : decode cX11_count 40 = .ok (.iconst 4, 1) := by decide +kernel
theorem dX11_count_41 : decode cX11_count 41 = .ok (.istore 4, 2) := by decide +kernel
theorem dX11_count_43 : decode cX11_count 43 = .ok (.iload 4, 2) := by decide +kernel
theorem dX11_count_45 : decode cX11_count 45 = .ok (.bipush 12, 2) := by decide +kernel
theorem dX11_count_47 : decode cX11_count 47 = .ok (.if_icmp .ge 28, 3) := by decide +kernel
theorem dX11_count_50 : decode cX11_count 50 = .ok (.iload_n 3, 1) := by decide +kernel
theorem dX11_count_51 : decode cX11_count 51 = .ok (.aload_n 0, 1) := by decide +kernel
theorem dX11_count_52 : decode cX11_count 52 = .ok (.getfield 19, 3) := by decide +kernel
theorem dX11_count_55 : decode cX11_count 55 = .ok (.iload 4, 2) := by decide +kernel
theorem dX11_count_57 : decode cX11_count 57 = .ok (.iaload, 1) := by decide +kernel
theorem dX11_count_58 : decode cX11_count 58 = .ok (.iconst 1, 1) := by decide +kernel
theorem dX11_count_59 : decode cX11_count 59 = .ok (.if_icmp .ne 7, 3) := by decide +kernel
theorem dX11_count_62 : decode cX11_count 62 = .ok (.iconst 1, 1) := by decide +kernel
theorem dX11_count_63 : decode cX11_count 63 = .ok (.goto 4, 3) := by decide +kernel
theorem dX11_count_66 : decode cX11_count 66 = .ok (.iconst 0, 1) := by decide +kernel
theorem dX11_count_67 : decode cX11_count 67 = .ok (.iadd, 1) := by decide +kernel
theorem dX11_count_68 : decode cX11_count 68 = .ok (.istore_n 3, 1) := by decide +kernel
theorem dX11_count_69 : decode cX11_count 69 = .ok (.iinc 4 1, 3) := by decide +kernel
theorem dX11_count_72 : decode cX11_count 72 = .ok (.goto (-29), 3) := by decide +kernel
theorem dX11_count_75 : decode cX11_count 75 = .ok (.iload_n 1, 1) := by decide +kernel
theorem dX11_count_76 : decode cX11_count 76 = .ok (.tableswitch 179 0 13 #[72, 77, 82, 87, 111, 116, 129, 142, 155, 160, 165, 170, 172, 174], 72) := by decide +kernel
theorem dX11_count_148 : decode cX11_count 148 = .ok (.aload_n 0, 1) := by decide +kernel
theorem dX11_count_149 : decode cX11_count 149 = .ok (.getfield 263, 3) := by decide +kernel
theorem dX11_count_152 : decode cX11_count 152 = .ok (.ireturn, 1) := by decide +kernel
theorem dX11_count_153 : decode cX11_count 153 = .ok (.aload_n 0, 1) := by decide +kernel
theorem dX11_count_154 : decode cX11_count 154 = .ok (.getfield 260, 3) := by decide +kernel
theorem dX11_count_157 : decode cX11_count 157 = .ok (.ireturn, 1) := by decide +kernel
theorem dX11_count_158 : decode cX11_count 158 = .ok (.aload_n 0, 1) := by decide +kernel
theorem dX11_count_159 : decode cX11_count 159 = .ok (.getfield 35, 3) := by decide +kernel
theorem dX11_count_162 : decode cX11_count 162 = .ok (.ireturn, 1) := by decide +kernel
theorem dX11_count_163 : decode cX11_count 163 = .ok (.aload_n 0, 1) := by decide +kernel
theorem dX11_count_164 : decode cX11_count 164 = .ok (.getfield 15, 3) := by decide +kernel
theorem dX11_count_167 : decode cX11_count 167 = .ok (.ifCond .ne 7, 3) := by decide +kernel
theorem dX11_count_170 : decode cX11_count 170 = .ok (.iconst 0, 1) := by decide +kernel
theorem dX11_count_171 : decode cX11_count 171 = .ok (.goto 15, 3) := by decide +kernel
theorem dX11_count_174 : decode cX11_count 174 = .ok (.aload_n 0, 1) := by decide +kernel
theorem dX11_count_175 : decode cX11_count 175 = .ok (.getfield 119, 3) := by decide +kernel
theorem dX11_count_178 : decode cX11_count 178 = .ok (.ifCond .eq 7, 3) := by decide +kernel
theorem dX11_count_181 : decode cX11_count 181 = .ok (.iconst 2, 1) := by decide +kernel
theorem dX11_count_182 : decode cX11_count 182 = .ok (.goto 4, 3) := by decide +kernel
theorem dX11_count_185 : decode cX11_count 185 = .ok (.iconst 1, 1) := by decide +kernel
theorem dX11_count_186 : decode cX11_count 186 = .ok (.ireturn, 1) := by decide +kernel
theorem dX11_count_187 : decode cX11_count 187 = .ok (.aload_n 0, 1) := by decide +kernel
theorem dX11_count_188 : decode cX11_count 188 = .ok (.getfield 125, 3) := by decide +kernel
theorem dX11_count_191 : decode cX11_count 191 = .ok (.ireturn, 1) := by decide +kernel
theorem dX11_count_192 : decode cX11_count 192 = .ok (.aload_n 0, 1) := by decide +kernel
theorem dX11_count_193 : decode cX11_count 193 = .ok (.getfield 122, 3) := by decide +kernel
theorem dX11_count_196 : decode cX11_count 196 = .ok (.ifCond .le 7, 3) := by decide +kernel
theorem dX11_count_199 : decode cX11_count 199 = .ok (.iconst 1, 1) := by decide +kernel
theorem dX11_count_200 : decode cX11_count 200 = .ok (.goto 4, 3) := by decide +kernel
theorem dX11_count_203 : decode cX11_count 203 = .ok (.iconst 0, 1) := by decide +kernel
theorem dX11_count_204 : decode cX11_count 204 = .ok (.ireturn, 1) := by decide +kernel
theorem dX11_count_205 : decode cX11_count 205 = .ok (.aload_n 0, 1) := by decide +kernel
theorem dX11_count_206 : decode cX11_count 206 = .ok (.getfield 166, 3) := by decide +kernel
theorem dX11_count_209 : decode cX11_count 209 = .ok (.ifCond .eq 7, 3) := by decide +kernel
theorem dX11_count_212 : decode cX11_count 212 = .ok (.iconst 1, 1) := by decide +kernel
theorem dX11_count_213 : decode cX11_count 213 = .ok (.goto 4, 3) := by decide +kernel
theorem dX11_count_216 : decode cX11_count 216 = .ok (.iconst 0, 1) := by decide +kernel
theorem dX11_count_217 : decode cX11_count 217 = .ok (.ireturn, 1) := by decide +kernel
theorem dX11_count_218 : decode cX11_count 218 = .ok (.aload_n 0, 1) := by decide +kernel
theorem dX11_count_219 : decode cX11_count 219 = .ok (.getfield 225, 3) := by decide +kernel
theorem dX11_count_222 : decode cX11_count 222 = .ok (.ifCond .eq 7, 3) := by decide +kernel
theorem dX11_count_225 : decode cX11_count 225 = .ok (.iconst 1, 1) := by decide +kernel
theorem dX11_count_226 : decode cX11_count 226 = .ok (.goto 4, 3) := by decide +kernel
theorem dX11_count_229 : decode cX11_count 229 = .ok (.iconst 0, 1) := by decide +kernel
theorem dX11_count_230 : decode cX11_count 230 = .ok (.ireturn, 1) := by decide +kernel
theorem dX11_count_231 : decode cX11_count 231 = .ok (.aload_n 0, 1) := by decide +kernel
theorem dX11_count_232 : decode cX11_count 232 = .ok (.getfield 131, 3) := by decide +kernel
theorem dX11_count_235 : decode cX11_count 235 = .ok (.ireturn, 1) := by decide +kernel
theorem dX11_count_236 : decode cX11_count 236 = .ok (.aload_n 0, 1) := by decide +kernel
theorem dX11_count_237 : decode cX11_count 237 = .ok (.getfield 26, 3) := by decide +kernel
theorem dX11_count_240 : decode cX11_count 240 = .ok (.ireturn, 1) := by decide +kernel
theorem dX11_count_241 : decode cX11_count 241 = .ok (.aload_n 0, 1) := by decide +kernel
theorem dX11_count_242 : decode cX11_count 242 = .ok (.invokevirtual 209, 3) := by decide +kernel
theorem dX11_count_245 : decode cX11_count 245 = .ok (.ireturn, 1) := by decide +kernel
theorem dX11_count_246 : decode cX11_count 246 = .ok (.iload_n 2, 1) := by decide +kernel
theorem dX11_count_247 : decode cX11_count 247 = .ok (.ireturn, 1) := by decide +kernel
theorem dX11_count_248 : decode cX11_count 248 = .ok (.iload_n 3, 1) := by decide +kernel
theorem dX11_count_249 : decode cX11_count 249 = .ok (.ireturn, 1) := by decide +kernel
theorem dX11_count_250 : decode cX11_count 250 = .ok (.aload_n 0, 1) := by decide +kernel
theorem dX11_count_251 : decode cX11_count 251 = .ok (.getfield 44, 3) := by decide +kernel
theorem dX11_count_254 : decode cX11_count 254 = .ok (.ireturn, 1) := by decide +kernel
theorem dX11_count_255 : decode cX11_count 255 = .ok (.iconst (-1), 1) := by decide +kernel
theorem dX11_count_256 : decode cX11_count 256 = .ok (.ireturn, 1) := by decide +kernel
end
section
theorem dJ9_floorMod_7cf53_0 : decode cJ9_floorMod_7cf53 0 = .ok (.iload_n 0, 1) := by decide +kernel
theorem dJ9_floorMod_7cf53_1 : decode cJ9_floorMod_7cf53 1 = .ok (.iload_n 1, 1) := by decide +kernel
theorem dJ9_floorMod_7cf53_2 : decode cJ9_floorMod_7cf53 2 = .ok (.irem, 1) := by decide +kernel
theorem dJ9_floorMod_7cf53_3 : decode cJ9_floorMod_7cf53 3 = .ok (.istore_n 2, 1) := by decide +kernel
theorem dJ9_floorMod_7cf53_4 : decode cJ9_floorMod_7cf53 4 = .ok (.iload_n 0, 1) := by decide +kernel
theorem dJ9_floorMod_7cf53_5 : decode cJ9_floorMod_7cf53 5 = .ok (.iload_n 1, 1) := by decide +kernel
theorem dJ9_floorMod_7cf53_6 : decode cJ9_floorMod_7cf53 6 = .ok (.ixor, 1) := by decide +kernel
theorem dJ9_floorMod_7cf53_7 : decode cJ9_floorMod_7cf53 7 = .ok (.ifCond .ge 11, 3) := by decide +kernel
theorem dJ9_floorMod_7cf53_10 : decode cJ9_floorMod_7cf53 10 = .ok (.iload_n 2, 1) := by decide +kernel
theorem dJ9_floorMod_7cf53_11 : decode cJ9_floorMod_7cf53 11 = .ok (.ifCond .eq 7, 3) := by decide +kernel
theorem dJ9_floorMod_7cf53_14 : decode cJ9_floorMod_7cf53 14 = .ok (.iload_n 2, 1) := by decide +kernel
theorem dJ9_floorMod_7cf53_15 : decode cJ9_floorMod_7cf53 15 = .ok (.iload_n 1, 1) := by decide +kernel
theorem dJ9_floorMod_7cf53_16 : decode cJ9_floorMod_7cf53 16 = .ok (.iadd, 1) := by decide +kernel
theorem dJ9_floorMod_7cf53_17 : decode cJ9_floorMod_7cf53 17 = .ok (.ireturn, 1) := by decide +kernel
theorem dJ9_floorMod_7cf53_18 : decode cJ9_floorMod_7cf53 18 = .ok (.iload_n 2, 1) := by decide +kernel
theorem dJ9_floorMod_7cf53_19 : decode cJ9_floorMod_7cf53 19 = .ok (.ireturn, 1) := by decide +kernel
end
section
/-! THE ABSTRACT STORE: places 0, 1, .. stand for cells at base + 0, base + 1, ..; place 1000000 is the static table. A store: how many places, what each is (kind, length), its ints, its references.
Kinds: below 100 the class of that number in vwCl; 100 int[], 101 boolean[], 102 Message[], 103 Box[]. -/
abbrev ab_S : Type := Nat × (Nat → Nat × Nat) × (Nat → Nat → Int32) × (Nat → Nat → Option Nat)
abbrev ab_G : Type := Nat × Nat × (Nat → ClassId) × va_G
def ab_a (G : ab_G) (k : Nat) : Nat := if k = 1000000 then G.2.1 else G.1 + k
def ab_c (G : ab_G) : Value → Value
  | .ref k => .ref (ab_a G k)
  | .int x => .int x
  | .long x => .long x
  | .float x => .float x
  | .double x => .double x
  | .null => .null
  | .retAddr x => .retAddr x
def ab_isR (t : FieldType) : Bool := match t with
  | .object _ => true
  | .array _ => true
  | _ => false
def ab_fv (G : ab_G) (σ : ab_S) (ci q j : Nat) : Value := if ab_isR (ab_ty ci j) = true then va_rf ((σ.2.2.2 q j).map (ab_a G)) else .int (σ.2.2.1 q j)
def ab_nf (ci : Nat) : Nat := match vwCl[ci]? with
  | some r => r.2.2
  | none => 0
def ab_arr (G : ab_G) (σ : ab_S) (q : Nat) : vp_A := ((σ.2.1 q).2, if (σ.2.1 q).1 < 102 then .inl (σ.2.2.1 q) else .inr (.inr (.inr (.inr (fun j => (σ.2.2.2 q j).map (ab_a G))))))
def ab_cell (G : ab_G) (σ : ab_S) (q : Nat) : va_E := if (σ.2.1 q).1 < 100 then .inr ((σ.2.1 q).1, (List.range (ab_nf (σ.2.1 q).1)).map (ab_fv G σ (σ.2.1 q).1 q)) else .inl (G.2.2.1 (σ.2.1 q).1, ab_arr G σ q)
def ab_ws (G : ab_G) (σ : ab_S) : va_W := (List.range σ.1).map (fun q => (ab_a G q, ab_cell G σ q))
def ab_is (σ : ab_S) (q ci : Nat) : Prop := q < σ.1 ∧ (σ.2.1 q).1 = ci
def ab_up {α : Type} (f : Nat → Nat → α) (q j : Nat) (v : α) : Nat → Nat → α := fun q' j' => if q' = q then (if j' = j then v else f q' j') else f q' j'
def ab_si (σ : ab_S) (q j : Nat) (v : Int32) : ab_S := (σ.1, σ.2.1, ab_up σ.2.2.1 q j v, σ.2.2.2)
def ab_sr (σ : ab_S) (q j : Nat) (v : Option Nat) : ab_S := (σ.1, σ.2.1, σ.2.2.1, ab_up σ.2.2.2 q j v)
theorem ab_ws_at {G : ab_G} {σ : ab_S} {q : Nat} (h : q < σ.1) : (ab_ws G σ)[q]? = some (ab_a G q, ab_cell G σ q) := by
  simp [ab_ws, h]
theorem ab_ws_obj {G : ab_G} {σ : ab_S} {q ci : Nat} (h : ab_is σ q ci) (hc : ci < 100) : (ab_ws G σ)[q]? = some (ab_a G q, .inr (ci, (List.range (ab_nf ci)).map (ab_fv G σ ci q))) := by
  rw [ab_ws_at h.1, ab_cell, h.2, if_pos hc]
theorem ab_ws_arr {G : ab_G} {σ : ab_S} {q ci : Nat} (h : ab_is σ q ci) (hc : ¬ ci < 100) : (ab_ws G σ)[q]? = some (ab_a G q, .inl (G.2.2.1 ci, ab_arr G σ q)) := by
  rw [ab_ws_at h.1, ab_cell, h.2, if_neg hc]
theorem ab_cell_congr {G : ab_G} {σ σ' : ab_S} {k : Nat} (h1 : σ'.2.1 k = σ.2.1 k) (h2 : σ'.2.2.1 k = σ.2.2.1 k) (h3 : σ'.2.2.2 k = σ.2.2.2 k) : ab_cell G σ' k = ab_cell G σ k := by
  have e : ∀ ci : Nat, ab_fv G σ' ci k = ab_fv G σ ci k := fun ci => by
    funext j
    simp only [ab_fv, h2, h3]
  simp only [ab_cell, ab_arr, h1, h2, h3, e]
theorem ab_up_row {α : Type} {f : Nat → Nat → α} {q j k : Nat} {v : α} (h : k ≠ q) : ab_up f q j v k = f k := by
  funext i
  simp [ab_up, h]
theorem ab_ws_set {G : ab_G} {σ σ' : ab_S} {q : Nat} (hn : σ'.1 = σ.1) (ho : ∀ k, k ≠ q → ab_cell G σ' k = ab_cell G σ k) : (ab_ws G σ).set q (ab_a G q, ab_cell G σ' q) = ab_ws G σ' := by
  apply List.ext_getElem?
  intro k
  rw [List.getElem?_set]
  by_cases hk : q = k
  · subst hk
    rw [if_pos rfl]
    by_cases hl : q < σ.1
    · rw [if_pos (by simpa [ab_ws] using hl), ab_ws_at (by rw [hn]; exact hl)]
    · rw [if_neg (by simpa [ab_ws] using hl), eq_comm, List.getElem?_eq_none_iff]
      simpa [ab_ws, hn] using hl
  · rw [if_neg hk]
    simp only [ab_ws, List.getElem?_map, hn]
    cases h : (List.range σ.1)[k]? with
    | none => rfl
    | some x =>
      have hx : x = k := by
        have := List.getElem?_eq_some_iff.mp h
        obtain ⟨h1, h2⟩ := this
        simp at h2
        exact h2.symm
      subst hx
      simp [ho x (fun e => hk e.symm)]
theorem ab_ws_push {G : ab_G} {σ σ' : ab_S} (hn : σ'.1 = σ.1 + 1) (ho : ∀ k, k < σ.1 → ab_cell G σ' k = ab_cell G σ k) : ab_ws G σ ++ [(ab_a G σ.1, ab_cell G σ' σ.1)] = ab_ws G σ' := by
  simp only [ab_ws, hn, List.range_succ, List.map_append, List.map_cons, List.map_nil]
  congr 1
  apply List.map_congr_left
  intro k hk
  rw [ho k (List.mem_range.mp hk)]
theorem ab_up_ne {α : Type} {f : Nat → Nat → α} {q j q' j' : Nat} {v : α} (h : q' ≠ q) : ab_up f q j v q' j' = f q' j' := by
  simp [ab_up, h]
theorem ab_up_eq {α : Type} {f : Nat → Nat → α} {q j : Nat} {v : α} : ab_up f q j v q j = v := by
  simp [ab_up]
theorem ab_up_nj {α : Type} {f : Nat → Nat → α} {q j q' j' : Nat} {v : α} (h : j' ≠ j) : ab_up f q j v q' j' = f q' j' := by
  simp [ab_up, h]
/-- a field's store -/
theorem ab_set_fi {G : ab_G} {σ : ab_S} {q ci j : Nat} {v : Int32} (h : ab_is σ q ci) (hc : ci < 100) (hr : ab_isR (ab_ty ci j) = false) : (ab_ws G σ).set q (ab_a G q, .inr (ci, ((List.range (ab_nf ci)).map (ab_fv G σ ci q)).set j (.int v))) = ab_ws G (ab_si σ q j v) := by
  rw [← ab_ws_set (σ := σ) (σ' := ab_si σ q j v) (q := q) (G := G) rfl (fun k hk => ?_)]
  · congr 2
    simp only [ab_cell, ab_si, h.2, if_pos hc]
    congr 2
    apply List.ext_getElem?
    intro i
    rw [List.getElem?_set]
    by_cases hi : j = i
    · subst hi
      by_cases hl : j < ab_nf ci
      · simp [hl, ab_fv, hr, ab_up]
      · simp [hl]
    · rw [if_neg hi]
      simp only [List.getElem?_map]
      cases hx : (List.range (ab_nf ci))[i]? with
      | none => rfl
      | some x =>
        obtain ⟨h1, h2⟩ := List.getElem?_eq_some_iff.mp hx
        simp at h2
        subst h2
        simp [ab_fv, ab_up, Ne.symm hi]
  · exact ab_cell_congr rfl (ab_up_row hk) rfl
theorem ab_set_fr {G : ab_G} {σ : ab_S} {q ci j : Nat} {v : Option Nat} (h : ab_is σ q ci) (hc : ci < 100) (hr : ab_isR (ab_ty ci j) = true) : (ab_ws G σ).set q (ab_a G q, .inr (ci, ((List.range (ab_nf ci)).map (ab_fv G σ ci q)).set j (va_rf (v.map (ab_a G))))) = ab_ws G (ab_sr σ q j v) := by
  rw [← ab_ws_set (σ := σ) (σ' := ab_sr σ q j v) (q := q) (G := G) rfl (fun k hk => ?_)]
  · congr 2
    simp only [ab_cell, ab_sr, h.2, if_pos hc]
    congr 2
    apply List.ext_getElem?
    intro i
    rw [List.getElem?_set]
    by_cases hi : j = i
    · subst hi
      by_cases hl : j < ab_nf ci
      · simp [hl, ab_fv, hr, ab_up]
      · simp [hl]
    · rw [if_neg hi]
      simp only [List.getElem?_map]
      cases hx : (List.range (ab_nf ci))[i]? with
      | none => rfl
      | some x =>
        obtain ⟨h1, h2⟩ := List.getElem?_eq_some_iff.mp hx
        simp at h2
        subst h2
        simp [ab_fv, ab_up, Ne.symm hi]
  · exact ab_cell_congr rfl rfl (ab_up_row hk)
theorem ab_set_ai {G : ab_G} {σ : ab_S} {q ci j : Nat} {v : Int32} (h : ab_is σ q ci) (hc : ¬ ci < 100) (h2 : ci < 102) : (ab_ws G σ).set q (ab_a G q, .inl (G.2.2.1 ci, (σ.2.1 q).2, .inl (upd (σ.2.2.1 q) j v))) = ab_ws G (ab_si σ q j v) := by
  rw [← ab_ws_set (σ := σ) (σ' := ab_si σ q j v) (q := q) (G := G) rfl (fun k hk => ?_)]
  · congr 2
    simp only [ab_cell, ab_arr, ab_si, h.2, if_neg hc, if_pos h2]
    congr 4
    funext i
    simp [upd, ab_up]
  · exact ab_cell_congr rfl (ab_up_row hk) rfl
theorem ab_set_ar {G : ab_G} {σ : ab_S} {q ci j : Nat} {v : Option Nat} (h : ab_is σ q ci) (hc : ¬ ci < 100) (h2 : ¬ ci < 102) : (ab_ws G σ).set q (ab_a G q, .inl (G.2.2.1 ci, (σ.2.1 q).2, .inr (.inr (.inr (.inr (va_up (fun j => (σ.2.2.2 q j).map (ab_a G)) j (v.map (ab_a G)))))))) = ab_ws G (ab_sr σ q j v) := by
  rw [← ab_ws_set (σ := σ) (σ' := ab_sr σ q j v) (q := q) (G := G) rfl (fun k hk => ?_)]
  · congr 2
    simp only [ab_cell, ab_arr, ab_sr, h.2, if_neg hc, if_neg h2]
    congr 7
    funext i
    by_cases hi : i = j
    · subst hi; simp [va_up, ab_up]
    · simp [va_up, ab_up, hi]
  · exact ab_cell_congr rfl rfl (ab_up_row hk)
/-- a new place: of kind kd, length len, all default -/
def ab_nw (σ : ab_S) (kd len : Nat) : ab_S := (σ.1 + 1, (fun q => if q = σ.1 then (kd, len) else σ.2.1 q), (fun q j => if q = σ.1 then 0 else σ.2.2.1 q j), (fun q j => if q = σ.1 then none else σ.2.2.2 q j))
theorem ab_push {G : ab_G} {σ : ab_S} {kd len : Nat} : ab_ws G σ ++ [(ab_a G σ.1, ab_cell G (ab_nw σ kd len) σ.1)] = ab_ws G (ab_nw σ kd len) := by
  refine ab_ws_push rfl (fun k hk => ?_)
  have hk : k ≠ σ.1 := Nat.ne_of_lt hk
  exact ab_cell_congr (if_neg hk) (by funext j; exact if_neg hk) (by funext j; exact if_neg hk)
end
section
/-! THE WALK'S JUDGEMENT over the abstract store -/
def ab_tys (dA : Nat → ClassId) : List (ClassId × FieldType) := [(dA 100, .int), (dA 101, .boolean), (dA 102, .object RX6), (dA 103, .object RX0)]
def ab_K (G : ab_G) (U : State) : Prop := va_K G.2.2.2 vwCl (ab_tys G.2.2.1) U ∧ va_AO RX6 U ∧ va_AO RX0 U ∧ (∀ w ∈ ab_nest, va_Nw w U) ∧ ∀ w ∈ ab_nestf, va_Nw w U
def ab_al (j : Nat) : Int32 := ([6, 5, 4090, 4084, 12, 12, 12, 12, 12, 12, 12, 12] : List Int32).getD j 0
def ab_Z (G : ab_G) (A : Nat → Prop) (U : State) (H : Heap) : Prop := va_Z "ServerHouse" "ALLOWED" "[I" (.ref G.2.1) A U H ∧ va_T .int G.2.1 12 (fun j => .int (ab_al j)) A U H
def ab_I (M : ab_M) (G : ab_G) (A : Nat → Prop) (p : Program) (s : State) (m : MethodId) (args : Array Value) (meth : Method) (c : Code) : Prop :=
  p.tables.exec = Jvm.exec ∧ c.code = M.2.1 ∧ meth.sig.returnType = M.2.2.2 ∧ c.maxLocals = M.2.2.1 ∧ s.vm.findClass M.1.cls = some m.cls ∧ (∀ w ∈ gw, w.before args s = true) ∧ meth.locks = false ∧ meth.name = M.1.name ∧ (∀ q, s.heap.size ≤ q → A q) ∧ ab_K G s ∧ ab_Z G A s s.heap
def ab_L (G : ab_G) (lsA : Array Slot) (n : Nat) (ls : List (Option Value)) : Prop := lsA.size = n ∧ lv_wf lsA ∧ ∀ (i : Nat) (v : Value), ls[i]? = some (some v) → lsA[i]? = some (.val (ab_c G v))
def ab_rm (d mc ms : Nat) : Room := { frames := d, cells := mc, slots := ms, locals := 36 * d + 20 }
def ab_Q (G : ab_G) (tt : Prop) (mc : Nat) (Q : Option Value → ab_S → Prop) (A : Nat → Prop) : Array Value → State → Outcome → State → Prop := fun _ st oc t =>
  (∃ (r : Option Value) (σ : ab_S), oc = .returned (r.map (ab_c G)) ∧ Q r σ ∧ va_P G.2.2.2 vwCl (ab_ws G σ) t.heap ∧ va_D A (ab_ws G σ) ∧ (tt → t.heap.size = st.heap.size + mc ∧ t.heap.size = G.1 + σ.1)) ∧ va_F A st t
/-- the machine, in the frame of method M at pc, with locals ls and operands st over the store σ, comes to M's end with Q; k cells of n slots have been made so far -/
def ab_V (M : ab_M) (d mc ms : Nat) (tt : Prop) (Q : Option Value → ab_S → Prop) (k n pc : Nat) (ls : List (Option Value)) (st : List Value) (σ : ab_S) : Prop :=
  ∀ (p : Program) (l : Launch) (e : Env) (s : State) (m : MethodId) (args : Array Value) (below : List Frame) (meth : Method) (c : Code) (H : Heap) (locs : List Loc) (lsA : Array Slot) (G : ab_G) (A : Nat → Prop),
    ab_I M G A p s m args meth c → ab_L G lsA M.2.2.1 ls → va_P G.2.2.2 vwCl (ab_ws G σ) H → va_D A (ab_ws G σ) → va_S A s.heap H locs → (tt → H.size = s.heap.size + k ∧ H.size = G.1 + σ.1) →
    W p l e (ab_rm d mc ms) s m args below meth c H locs k n (MQ below (ab_Q G tt mc Q A) args s mc ms A) (F0 m pc lsA (st.map (ab_c G)))
/-- the CONTRACT of a method at these arguments and this store -/
def ab_Met (M : ab_M) (d mc ms : Nat) (tt : Prop) (av : List Value) (σ : ab_S) (Q : Option Value → ab_S → Prop) : Prop :=
  ∀ (l : Launch) (G : ab_G) (sz : Nat), Met l M.1 (Cond.code M.1 M.2.1 M.2.2.1 M.2.2.2 :: gw) (ab_rm d mc ms)
    (va_Pc (av.map (ab_c G)) (fun U => U.heap.size = sz ∧ va_P G.2.2.2 vwCl (ab_ws G σ) U.heap ∧ va_D (fun _ => True) (ab_ws G σ) ∧ ab_K G U ∧ ab_Z G (va_A (ab_ws G σ) sz) U U.heap ∧ (tt → sz = G.1 + σ.1)))
    (ab_Q G tt mc Q (va_A (ab_ws G σ) sz)) mc ms (va_A (ab_ws G σ) sz)
/-- the locals at a method's entry -/
def ab_en (av : List Value) (n : Nat) : List (Option Value) := (av.flatMap fun v => if v.category = 2 then [some v, none] else [some v]) ++ List.replicate (n - (av.flatMap fun v => if v.category = 2 then [some v, (none : Option Value)] else [some v]).length) none
theorem ab_c_cat (G : ab_G) (v : Value) : (ab_c G v).category = v.category := by
  cases v <;> rfl
theorem ab_sl (G : ab_G) : ∀ (av : List Value) (i : Nat) (v : Value), (av.flatMap fun v => if v.category = 2 then [some v, (none : Option Value)] else [some v])[i]? = some (some v) → (lg_sl (av.map (ab_c G)))[i]? = some (.val (ab_c G v))
  | [], i, v, h => by simp at h
  | a :: av, i, v, h => by
    have e1 : lg_sl ((a :: av).map (ab_c G)) = (if (ab_c G a).category = 2 then [Slot.val (ab_c G a), .second] else [.val (ab_c G a)]) ++ lg_sl (av.map (ab_c G)) := by simp [lg_sl]
    rw [e1, ab_c_cat]
    rw [List.flatMap_cons] at h
    by_cases hc : a.category = 2
    · rw [if_pos hc] at h ⊢
      match i, h with
      | 0, h => simp at h; subst h; rfl
      | 1, h => simp at h
      | i + 2, h => exact ab_sl G av i v h
    · rw [if_neg hc] at h ⊢
      match i, h with
      | 0, h => simp at h; subst h; rfl
      | i + 1, h => exact ab_sl G av i v h
theorem ab_sl_len (G : ab_G) (av : List Value) : (lg_sl (av.map (ab_c G))).length = (av.flatMap fun v => if v.category = 2 then [some v, (none : Option Value)] else [some v]).length := by
  induction av with
  | nil => rfl
  | cons a av ih =>
    have e1 : lg_sl ((a :: av).map (ab_c G)) = (if (ab_c G a).category = 2 then [Slot.val (ab_c G a), .second] else [.val (ab_c G a)]) ++ lg_sl (av.map (ab_c G)) := by simp [lg_sl]
    rw [e1, ab_c_cat, List.flatMap_cons, List.length_append, List.length_append, ih]
    by_cases hc : a.category = 2
    · simp [hc]
    · simp [hc]
theorem ab_en_L (G : ab_G) (av : List Value) (n : Nat) (h : (av.flatMap fun v => if v.category = 2 then [some v, (none : Option Value)] else [some v]).length ≤ n) : ab_L G ((lg_sl (av.map (ab_c G)) ++ List.replicate (n - (lg_sl (av.map (ab_c G))).length) Slot.unset).toArray) n (ab_en av n) := by
  have h1 := lv_entry (av.map (ab_c G)) (n := n) (by rw [ab_sl_len]; exact h)
  refine ⟨h1.1, h1.2.1, fun i v hi => ?_⟩
  unfold ab_en at hi
  by_cases hl : i < (av.flatMap fun v => if v.category = 2 then [some v, (none : Option Value)] else [some v]).length
  · rw [List.getElem?_append_left hl] at hi
    have h2 := ab_sl G av i v hi
    have hl2 : i < (lg_sl (av.map (ab_c G))).length := by rw [ab_sl_len]; exact hl
    rw [List.getElem?_toArray, List.getElem?_append_left hl2]
    exact h2
  · rw [List.getElem?_append_right (Nat.le_of_not_lt hl)] at hi
    have := List.mem_of_getElem? hi
    simp at this
/-- a contract out of a walk -/
theorem ab_Met.of {M : ab_M} {d mc ms : Nat} {tt : Prop} {av : List Value} {σ : ab_S} {Q : Option Value → ab_S → Prop} (hy : plainName M.1.cls = true) (hl : (av.flatMap fun v => if v.category = 2 then [some v, (none : Option Value)] else [some v]).length ≤ M.2.2.1)
    (h : ab_V M d mc ms tt Q 0 0 0 (ab_en av M.2.2.1) [] σ) : ab_Met M d mc ms tt av σ Q := by
  intro l G sz
  refine Met.ofW (cc := M.2.1) (maxL := M.2.2.1) (ret := M.2.2.2) hy rfl ?_
  intro p e s m args below meth c s₁ B hml hv
  obtain ⟨rfl, hsz, hP, hD, hK, hZ, ht⟩ := hv
  have hts := atoms_spec (ws := Cond.code M.1 M.2.1 M.2.2.1 M.2.2.2 :: gw) B.pre
  subst hsz
  rw [lg_entry_eq]
  exact h p l e s m _ below meth c s.heap [] _ G (va_A (ab_ws G σ) s.heap.size) ⟨B.exec, B.bytes, B.returns, hml, findClass_of_methodNamed B.named, fun w hw => hts w (List.mem_cons_of_mem _ hw), B.notSynchronized, (name_of_methodNamed B.named B.method).1, fun q hq => Or.inr hq, hK, hZ⟩ (ab_en_L G av _ hl) hP hD.self va_S.rf (fun h => ⟨rfl, ht h⟩)
/-- a weaker end -/
theorem ab_Met.imp {M : ab_M} {d mc ms : Nat} {tt : Prop} {av : List Value} {σ : ab_S} {Q Q' : Option Value → ab_S → Prop} (h : ab_Met M d mc ms tt av σ Q) (hq : ∀ r σ', Q r σ' → Q' r σ') : ab_Met M d mc ms tt av σ Q' := by
  intro l G sz
  have h1 := h l G sz
  intro p e ha hc hk s m args below hf hap hp htr
  obtain ⟨k, o, a1, a2, a3, a4⟩ := h1 p e ha hc hk s m args below hf hap hp htr
  refine ⟨k, o, a1, a2, a3, ?_, a4.2⟩
  obtain ⟨⟨r, σ', b1, b2, b3⟩, b4⟩ := a4.1
  exact ⟨⟨r, σ', b1, hq r σ' b2, b3⟩, b4⟩
section ABV
variable {M : ab_M} {d mc ms : Nat} {tt : Prop} {Q : Option Value → ab_S → Prop} {kc ks pc : Nat} {ls : List (Option Value)} {st : List Value} {σ : ab_S}
theorem ab_iconst {n : Int} {v : Int32} (hd : decode M.2.1 pc = .ok (.iconst n, 1)) (hv : Int32.ofInt n = v) (k : ab_V M d mc ms tt Q kc ks (pc + 1) ls (.int v :: st) σ) : ab_V M d mc ms tt Q kc ks (pc) ls (st) σ := by
  intro p l e s m args below meth c H locs lsA G A hI hL hP hD hS ht
  exact lv_iconst hI.1 hI.2.1 hd hv (k p l e s m args below meth c H locs lsA G A hI hL hP hD hS ht)
theorem ab_bipush {n : Int} {v : Int32} (hd : decode M.2.1 pc = .ok (.bipush n, 2)) (hv : (Int8.ofInt n).toInt32 = v) (k : ab_V M d mc ms tt Q kc ks (pc + 2) ls (.int v :: st) σ) : ab_V M d mc ms tt Q kc ks (pc) ls (st) σ := by
  intro p l e s m args below meth c H locs lsA G A hI hL hP hD hS ht
  exact lv_bipush hI.1 hI.2.1 hd hv (k p l e s m args below meth c H locs lsA G A hI hL hP hD hS ht)
theorem ab_sipush {n : Int} {v : Int32} (hd : decode M.2.1 pc = .ok (.sipush n, 3)) (hv : (Int16.ofInt n).toInt32 = v) (k : ab_V M d mc ms tt Q kc ks (pc + 3) ls (.int v :: st) σ) : ab_V M d mc ms tt Q kc ks (pc) ls (st) σ := by
  intro p l e s m args below meth c H locs lsA G A hI hL hP hD hS ht
  exact lv_sipush hI.1 hI.2.1 hd hv (k p l e s m args below meth c H locs lsA G A hI hL hP hD hS ht)
theorem ab_lconst {n : Fin 2} {v : Int64} (hd : decode M.2.1 pc = .ok (.lconst n, 1)) (hv : Int64.ofNat (n : Nat) = v) (k : ab_V M d mc ms tt Q kc ks (pc + 1) ls (.long v :: st) σ) : ab_V M d mc ms tt Q kc ks (pc) ls (st) σ := by
  intro p l e s m args below meth c H locs lsA G A hI hL hP hD hS ht
  exact lv_lconst hI.1 hI.2.1 hd hv (k p l e s m args below meth c H locs lsA G A hI hL hP hD hS ht)
theorem ab_null (hd : decode M.2.1 pc = .ok (.aconst_null, 1)) (k : ab_V M d mc ms tt Q kc ks (pc + 1) ls (.null :: st) σ) : ab_V M d mc ms tt Q kc ks (pc) ls (st) σ := by
  intro p l e s m args below meth c H locs lsA G A hI hL hP hD hS ht
  exact lv_null hI.1 hI.2.1 hd (k p l e s m args below meth c H locs lsA G A hI hL hP hD hS ht)
theorem ab_ldc2 {i : Nat} {v : Int64} (hd : decode M.2.1 pc = .ok (.ldc2_w i, 3)) (hw : Cond.constantLong M.1.cls i v ∈ gw) (k : ab_V M d mc ms tt Q kc ks (pc + 3) ls (.long v :: st) σ) : ab_V M d mc ms tt Q kc ks (pc) ls (st) σ := by
  intro p l e s m args below meth c H locs lsA G A hI hL hP hD hS ht
  exact lv_ldc2 hI.1 hI.2.1 hI.2.2.2.2.1 (hI.2.2.2.2.2.1 _ hw) hd (k p l e s m args below meth c H locs lsA G A hI hL hP hD hS ht)
theorem ab_iload_n {j : Fin 4} {i : Nat} {x : Int32} (hd : decode M.2.1 pc = .ok (.iload_n j, 1)) (hi : (j : Nat) = i) (hl : ls[i]? = some (some (.int x))) (k : ab_V M d mc ms tt Q kc ks (pc + 1) ls (.int x :: st) σ) : ab_V M d mc ms tt Q kc ks (pc) ls (st) σ := by
  intro p l e s m args below meth c H locs lsA G A hI hL hP hD hS ht
  exact lv_iload_n hI.1 hI.2.1 hd hi (hL.2.2 _ _ hl) (k p l e s m args below meth c H locs lsA G A hI hL hP hD hS ht)
theorem ab_iload {i : Nat} {x : Int32} (hd : decode M.2.1 pc = .ok (.iload i, 2)) (hl : ls[i]? = some (some (.int x))) (k : ab_V M d mc ms tt Q kc ks (pc + 2) ls (.int x :: st) σ) : ab_V M d mc ms tt Q kc ks (pc) ls (st) σ := by
  intro p l e s m args below meth c H locs lsA G A hI hL hP hD hS ht
  exact lv_iload hI.1 hI.2.1 hd (hL.2.2 _ _ hl) (k p l e s m args below meth c H locs lsA G A hI hL hP hD hS ht)
theorem ab_lload_n {j : Fin 4} {i : Nat} {x : Int64} (hd : decode M.2.1 pc = .ok (.lload_n j, 1)) (hi : (j : Nat) = i) (hl : ls[i]? = some (some (.long x))) (k : ab_V M d mc ms tt Q kc ks (pc + 1) ls (.long x :: st) σ) : ab_V M d mc ms tt Q kc ks (pc) ls (st) σ := by
  intro p l e s m args below meth c H locs lsA G A hI hL hP hD hS ht
  exact lv_lload_n hI.1 hI.2.1 hd hi (hL.2.2 _ _ hl) (k p l e s m args below meth c H locs lsA G A hI hL hP hD hS ht)
theorem ab_lload {i : Nat} {x : Int64} (hd : decode M.2.1 pc = .ok (.lload i, 2)) (hl : ls[i]? = some (some (.long x))) (k : ab_V M d mc ms tt Q kc ks (pc + 2) ls (.long x :: st) σ) : ab_V M d mc ms tt Q kc ks (pc) ls (st) σ := by
  intro p l e s m args below meth c H locs lsA G A hI hL hP hD hS ht
  exact lv_lload hI.1 hI.2.1 hd (hL.2.2 _ _ hl) (k p l e s m args below meth c H locs lsA G A hI hL hP hD hS ht)
theorem ab_aload_n {j : Fin 4} {i : Nat} {x : Nat} (hd : decode M.2.1 pc = .ok (.aload_n j, 1)) (hi : (j : Nat) = i) (hl : ls[i]? = some (some (.ref x))) (k : ab_V M d mc ms tt Q kc ks (pc + 1) ls (.ref x :: st) σ) : ab_V M d mc ms tt Q kc ks (pc) ls (st) σ := by
  intro p l e s m args below meth c H locs lsA G A hI hL hP hD hS ht
  exact lv_aload_n hI.1 hI.2.1 hd hi (hL.2.2 _ _ hl) (k p l e s m args below meth c H locs lsA G A hI hL hP hD hS ht)
theorem ab_aload {i : Nat} {x : Nat} (hd : decode M.2.1 pc = .ok (.aload i, 2)) (hl : ls[i]? = some (some (.ref x))) (k : ab_V M d mc ms tt Q kc ks (pc + 2) ls (.ref x :: st) σ) : ab_V M d mc ms tt Q kc ks (pc) ls (st) σ := by
  intro p l e s m args below meth c H locs lsA G A hI hL hP hD hS ht
  exact lv_aload hI.1 hI.2.1 hd (hL.2.2 _ _ hl) (k p l e s m args below meth c H locs lsA G A hI hL hP hD hS ht)
theorem ab_aload_nN {j : Fin 4} {i : Nat} (hd : decode M.2.1 pc = .ok (.aload_n j, 1)) (hi : (j : Nat) = i) (hl : ls[i]? = some (some (.null))) (k : ab_V M d mc ms tt Q kc ks (pc + 1) ls (.null :: st) σ) : ab_V M d mc ms tt Q kc ks (pc) ls (st) σ := by
  intro p l e s m args below meth c H locs lsA G A hI hL hP hD hS ht
  exact lv_aload_nN hI.1 hI.2.1 hd hi (hL.2.2 _ _ hl) (k p l e s m args below meth c H locs lsA G A hI hL hP hD hS ht)
theorem ab_aloadN {i : Nat} (hd : decode M.2.1 pc = .ok (.aload i, 2)) (hl : ls[i]? = some (some (.null))) (k : ab_V M d mc ms tt Q kc ks (pc + 2) ls (.null :: st) σ) : ab_V M d mc ms tt Q kc ks (pc) ls (st) σ := by
  intro p l e s m args below meth c H locs lsA G A hI hL hP hD hS ht
  exact lv_aloadN hI.1 hI.2.1 hd (hL.2.2 _ _ hl) (k p l e s m args below meth c H locs lsA G A hI hL hP hD hS ht)
def ab_as (G : ab_G) (ls : List (Option Value)) : List (Nat × Value) := ls.zipIdx.filterMap (fun x => x.1.map (fun v => (x.2, ab_c G v)))
theorem ab_as_mem {G : ab_G} {ls : List (Option Value)} {i : Nat} {w : Value} : (i, w) ∈ ab_as G ls ↔ ∃ v, ls[i]? = some (some v) ∧ w = ab_c G v := by
  constructor
  · intro h
    obtain ⟨⟨o, j⟩, h1, h2⟩ := List.mem_filterMap.mp h
    cases o with
    | none => cases h2
    | some v =>
      simp only [Option.map_some, Option.some.injEq, Prod.mk.injEq] at h2
      obtain ⟨rfl, rfl⟩ := h2
      exact ⟨v, by simpa [List.mk_mem_zipIdx_iff_getElem?] using h1, rfl⟩
  · rintro ⟨v, h1, rfl⟩
    exact List.mem_filterMap.mpr ⟨(some v, i), by simpa [List.mk_mem_zipIdx_iff_getElem?] using h1, rfl⟩
theorem ab_L.has {G : ab_G} {lsA : Array Slot} {n : Nat} {ls : List (Option Value)} (h : ab_L G lsA n ls) : lv_has lsA n (ab_as G ls) := by
  refine ⟨h.1, h.2.1, fun q hq => ?_⟩
  obtain ⟨i, w⟩ := q
  obtain ⟨v, h1, rfl⟩ := ab_as_mem.mp hq
  exact h.2.2 i v h1
/-- no long stands right before place i -/
def ab_nl (ls : List (Option Value)) (i : Nat) : Bool := match i with
  | 0 => true
  | i + 1 => match ls[i]? with
    | some (some v) => v.category == 1
    | _ => true
theorem ab_L.set {G : ab_G} {lsA : Array Slot} {n i : Nat} {ls : List (Option Value)} {v : Value} (hb : ab_nl ls i = true) (h : lv_has lsA n ((i, ab_c G v) :: (ab_as G ls).filter (fun q => !(q.1 == i) && !(q.1 + 1 == i && q.2.category == 2)))) : ab_L G lsA n (ls.set i (some v)) := by
  refine ⟨h.1, h.2.1, fun j w hj => ?_⟩
  rw [List.getElem?_set] at hj
  by_cases hij : i = j
  · subst hij
    rw [if_pos rfl] at hj
    split at hj
    · cases hj
      exact h.2.2 _ List.mem_cons_self
    · cases hj
  · rw [if_neg hij] at hj
    refine h.2.2 (j, ab_c G w) (List.mem_cons_of_mem _ (List.mem_filter.mpr ⟨ab_as_mem.mpr ⟨w, hj, rfl⟩, ?_⟩))
    simp only [Bool.and_eq_true, Bool.not_eq_true', beq_eq_false_iff_ne, ne_eq, Bool.and_eq_false_iff]
    refine ⟨fun e => hij e.symm, ?_⟩
    by_cases hc : j + 1 = i
    · right
      subst hc
      have hb : (match ls[j]? with | some (some v) => v.category == 1 | _ => true) = true := hb
      rw [hj] at hb
      rw [ab_c_cat]
      have : w.category = 1 := by simpa using hb
      omega
    · left
      exact hc
theorem ab_istore_n {j : Fin 4} {i : Nat} {x : Int32} (hd : decode M.2.1 pc = .ok (.istore_n j, 1)) (hi : (j : Nat) = i) (hn : i < M.2.2.1) (hb : ab_nl ls i = true) (k : ab_V M d mc ms tt Q kc ks (pc + 1) (ls.set i (some (.int x))) (st) σ) : ab_V M d mc ms tt Q kc ks (pc) ls (.int x :: st) σ := by
  intro p l e s m args below meth c H locs lsA G A hI hL hP hD hS ht
  exact lv_istore_n hI.1 hI.2.1 hd hi hL.has hn rfl (fun ls2 h2 => k p l e s m args below meth c H locs ls2 G A hI (ab_L.set (v := .int x) hb h2) hP hD hS ht)
theorem ab_istore {i : Nat} {x : Int32} (hd : decode M.2.1 pc = .ok (.istore i, 2)) (hn : i < M.2.2.1) (hb : ab_nl ls i = true) (k : ab_V M d mc ms tt Q kc ks (pc + 2) (ls.set i (some (.int x))) (st) σ) : ab_V M d mc ms tt Q kc ks (pc) ls (.int x :: st) σ := by
  intro p l e s m args below meth c H locs lsA G A hI hL hP hD hS ht
  exact lv_istore hI.1 hI.2.1 hd hL.has hn rfl (fun ls2 h2 => k p l e s m args below meth c H locs ls2 G A hI (ab_L.set (v := .int x) hb h2) hP hD hS ht)
theorem ab_astore_n {j : Fin 4} {i : Nat} {x : Nat} (hd : decode M.2.1 pc = .ok (.astore_n j, 1)) (hi : (j : Nat) = i) (hn : i < M.2.2.1) (hb : ab_nl ls i = true) (k : ab_V M d mc ms tt Q kc ks (pc + 1) (ls.set i (some (.ref x))) (st) σ) : ab_V M d mc ms tt Q kc ks (pc) ls (.ref x :: st) σ := by
  intro p l e s m args below meth c H locs lsA G A hI hL hP hD hS ht
  exact lv_astore_n hI.1 hI.2.1 hd hi hL.has hn rfl (fun ls2 h2 => k p l e s m args below meth c H locs ls2 G A hI (ab_L.set (v := .ref x) hb h2) hP hD hS ht)
theorem ab_astore {i : Nat} {x : Nat} (hd : decode M.2.1 pc = .ok (.astore i, 2)) (hn : i < M.2.2.1) (hb : ab_nl ls i = true) (k : ab_V M d mc ms tt Q kc ks (pc + 2) (ls.set i (some (.ref x))) (st) σ) : ab_V M d mc ms tt Q kc ks (pc) ls (.ref x :: st) σ := by
  intro p l e s m args below meth c H locs lsA G A hI hL hP hD hS ht
  exact lv_astore hI.1 hI.2.1 hd hL.has hn rfl (fun ls2 h2 => k p l e s m args below meth c H locs ls2 G A hI (ab_L.set (v := .ref x) hb h2) hP hD hS ht)
theorem ab_astore_nN {j : Fin 4} {i : Nat} (hd : decode M.2.1 pc = .ok (.astore_n j, 1)) (hi : (j : Nat) = i) (hn : i < M.2.2.1) (hb : ab_nl ls i = true) (k : ab_V M d mc ms tt Q kc ks (pc + 1) (ls.set i (some (.null))) (st) σ) : ab_V M d mc ms tt Q kc ks (pc) ls (.null :: st) σ := by
  intro p l e s m args below meth c H locs lsA G A hI hL hP hD hS ht
  exact lv_astore_nN hI.1 hI.2.1 hd hi hL.has hn rfl (fun ls2 h2 => k p l e s m args below meth c H locs ls2 G A hI (ab_L.set (v := .null) hb h2) hP hD hS ht)
theorem ab_astoreN {i : Nat} (hd : decode M.2.1 pc = .ok (.astore i, 2)) (hn : i < M.2.2.1) (hb : ab_nl ls i = true) (k : ab_V M d mc ms tt Q kc ks (pc + 2) (ls.set i (some (.null))) (st) σ) : ab_V M d mc ms tt Q kc ks (pc) ls (.null :: st) σ := by
  intro p l e s m args below meth c H locs lsA G A hI hL hP hD hS ht
  exact lv_astoreN hI.1 hI.2.1 hd hL.has hn rfl (fun ls2 h2 => k p l e s m args below meth c H locs ls2 G A hI (ab_L.set (v := .null) hb h2) hP hD hS ht)
theorem ab_iinc {i : Nat} {n : Int} {x v : Int32} (hd : decode M.2.1 pc = .ok (.iinc i n, 3)) (hl : ls[i]? = some (some (.int x))) (hv : x + Int32.ofInt n = v) (hn : i < M.2.2.1) (hb : ab_nl ls i = true) (k : ab_V M d mc ms tt Q kc ks (pc + 3) (ls.set i (some (.int v))) (st) σ) : ab_V M d mc ms tt Q kc ks (pc) ls (st) σ := by
  intro p l e s m args below meth c H locs lsA G A hI hL hP hD hS ht
  obtain ⟨k0, hk0⟩ := List.getElem?_of_mem (ab_as_mem (G := G).mpr ⟨_, hl, rfl⟩)
  exact lv_iinc hI.1 hI.2.1 hd hL.has hk0 hv hn rfl (fun ls2 h2 => k p l e s m args below meth c H locs ls2 G A hI (ab_L.set (v := .int v) hb h2) hP hD hS ht)
theorem ab_iadd {x y : Int32} (hd : decode M.2.1 pc = .ok (.iadd, 1)) (k : ab_V M d mc ms tt Q kc ks (pc + 1) ls (.int (x + y) :: st) σ) : ab_V M d mc ms tt Q kc ks (pc) ls (.int y :: .int x :: st) σ := by
  intro p l e s m args below meth c H locs lsA G A hI hL hP hD hS ht
  exact lv_iadd hI.1 hI.2.1 hd (k p l e s m args below meth c H locs lsA G A hI hL hP hD hS ht)
theorem ab_isub {x y : Int32} (hd : decode M.2.1 pc = .ok (.isub, 1)) (k : ab_V M d mc ms tt Q kc ks (pc + 1) ls (.int (x - y) :: st) σ) : ab_V M d mc ms tt Q kc ks (pc) ls (.int y :: .int x :: st) σ := by
  intro p l e s m args below meth c H locs lsA G A hI hL hP hD hS ht
  exact lv_isub hI.1 hI.2.1 hd (k p l e s m args below meth c H locs lsA G A hI hL hP hD hS ht)
theorem ab_imul {x y : Int32} (hd : decode M.2.1 pc = .ok (.imul, 1)) (k : ab_V M d mc ms tt Q kc ks (pc + 1) ls (.int (x * y) :: st) σ) : ab_V M d mc ms tt Q kc ks (pc) ls (.int y :: .int x :: st) σ := by
  intro p l e s m args below meth c H locs lsA G A hI hL hP hD hS ht
  exact lv_imul hI.1 hI.2.1 hd (k p l e s m args below meth c H locs lsA G A hI hL hP hD hS ht)
theorem ab_iand {x y : Int32} (hd : decode M.2.1 pc = .ok (.iand, 1)) (k : ab_V M d mc ms tt Q kc ks (pc + 1) ls (.int (x &&& y) :: st) σ) : ab_V M d mc ms tt Q kc ks (pc) ls (.int y :: .int x :: st) σ := by
  intro p l e s m args below meth c H locs lsA G A hI hL hP hD hS ht
  exact lv_iand hI.1 hI.2.1 hd (k p l e s m args below meth c H locs lsA G A hI hL hP hD hS ht)
theorem ab_ixor {x y : Int32} (hd : decode M.2.1 pc = .ok (.ixor, 1)) (k : ab_V M d mc ms tt Q kc ks (pc + 1) ls (.int (x ^^^ y) :: st) σ) : ab_V M d mc ms tt Q kc ks (pc) ls (.int y :: .int x :: st) σ := by
  intro p l e s m args below meth c H locs lsA G A hI hL hP hD hS ht
  exact lv_ixor hI.1 hI.2.1 hd (k p l e s m args below meth c H locs lsA G A hI hL hP hD hS ht)
theorem ab_ishr {x y : Int32} (hd : decode M.2.1 pc = .ok (.ishr, 1)) (k : ab_V M d mc ms tt Q kc ks (pc + 1) ls (.int (x >>> (y &&& 31)) :: st) σ) : ab_V M d mc ms tt Q kc ks (pc) ls (.int y :: .int x :: st) σ := by
  intro p l e s m args below meth c H locs lsA G A hI hL hP hD hS ht
  exact lv_ishr hI.1 hI.2.1 hd (k p l e s m args below meth c H locs lsA G A hI hL hP hD hS ht)
theorem ab_idiv {x y : Int32} (hd : decode M.2.1 pc = .ok (.idiv, 1)) (hne : ¬ y = 0) (k : ab_V M d mc ms tt Q kc ks (pc + 1) ls (.int (x / y) :: st) σ) : ab_V M d mc ms tt Q kc ks (pc) ls (.int y :: .int x :: st) σ := by
  intro p l e s m args below meth c H locs lsA G A hI hL hP hD hS ht
  exact lv_idiv hI.1 hI.2.1 hd hne (k p l e s m args below meth c H locs lsA G A hI hL hP hD hS ht)
theorem ab_irem {x y : Int32} (hd : decode M.2.1 pc = .ok (.irem, 1)) (hne : ¬ y = 0) (k : ab_V M d mc ms tt Q kc ks (pc + 1) ls (.int (x - x / y * y) :: st) σ) : ab_V M d mc ms tt Q kc ks (pc) ls (.int y :: .int x :: st) σ := by
  intro p l e s m args below meth c H locs lsA G A hI hL hP hD hS ht
  exact lv_irem hI.1 hI.2.1 hd hne (k p l e s m args below meth c H locs lsA G A hI hL hP hD hS ht)
theorem ab_ladd {x y : Int64} (hd : decode M.2.1 pc = .ok (.ladd, 1)) (k : ab_V M d mc ms tt Q kc ks (pc + 1) ls (.long (x + y) :: st) σ) : ab_V M d mc ms tt Q kc ks (pc) ls (.long y :: .long x :: st) σ := by
  intro p l e s m args below meth c H locs lsA G A hI hL hP hD hS ht
  exact lv_ladd hI.1 hI.2.1 hd (k p l e s m args below meth c H locs lsA G A hI hL hP hD hS ht)
theorem ab_lsub {x y : Int64} (hd : decode M.2.1 pc = .ok (.lsub, 1)) (k : ab_V M d mc ms tt Q kc ks (pc + 1) ls (.long (x - y) :: st) σ) : ab_V M d mc ms tt Q kc ks (pc) ls (.long y :: .long x :: st) σ := by
  intro p l e s m args below meth c H locs lsA G A hI hL hP hD hS ht
  exact lv_lsub hI.1 hI.2.1 hd (k p l e s m args below meth c H locs lsA G A hI hL hP hD hS ht)
theorem ab_lmul {x y : Int64} (hd : decode M.2.1 pc = .ok (.lmul, 1)) (k : ab_V M d mc ms tt Q kc ks (pc + 1) ls (.long (x * y) :: st) σ) : ab_V M d mc ms tt Q kc ks (pc) ls (.long y :: .long x :: st) σ := by
  intro p l e s m args below meth c H locs lsA G A hI hL hP hD hS ht
  exact lv_lmul hI.1 hI.2.1 hd (k p l e s m args below meth c H locs lsA G A hI hL hP hD hS ht)
theorem ab_lcmp {x y : Int64} (hd : decode M.2.1 pc = .ok (.lcmp, 1)) (k : ab_V M d mc ms tt Q kc ks (pc + 1) ls (.int (lg_cmp x y) :: st) σ) : ab_V M d mc ms tt Q kc ks (pc) ls (.long y :: .long x :: st) σ := by
  intro p l e s m args below meth c H locs lsA G A hI hL hP hD hS ht
  exact W.lcmp hI.1 hI.2.1 hd (k p l e s m args below meth c H locs lsA G A hI hL hP hD hS ht)
theorem ab_i2l {x : Int32} (hd : decode M.2.1 pc = .ok (.i2l, 1)) (k : ab_V M d mc ms tt Q kc ks (pc + 1) ls (.long x.toInt64 :: st) σ) : ab_V M d mc ms tt Q kc ks (pc) ls (.int x :: st) σ := by
  intro p l e s m args below meth c H locs lsA G A hI hL hP hD hS ht
  exact lv_i2l hI.1 hI.2.1 hd rfl (k p l e s m args below meth c H locs lsA G A hI hL hP hD hS ht)
theorem ab_l2i {x : Int64} (hd : decode M.2.1 pc = .ok (.l2i, 1)) (k : ab_V M d mc ms tt Q kc ks (pc + 1) ls (.int x.toInt32 :: st) σ) : ab_V M d mc ms tt Q kc ks (pc) ls (.long x :: st) σ := by
  intro p l e s m args below meth c H locs lsA G A hI hL hP hD hS ht
  exact lv_l2i hI.1 hI.2.1 hd rfl (k p l e s m args below meth c H locs lsA G A hI hL hP hD hS ht)
theorem ab_dup {v : Value} (hd : decode M.2.1 pc = .ok (.dup, 1)) (hc : v.category = 1) (k : ab_V M d mc ms tt Q kc ks (pc + 1) ls (v :: v :: st) σ) : ab_V M d mc ms tt Q kc ks (pc) ls (v :: st) σ := by
  intro p l e s m args below meth c H locs lsA G A hI hL hP hD hS ht
  exact lv_dup hI.1 hI.2.1 hd ((ab_c_cat G v).trans hc) (k p l e s m args below meth c H locs lsA G A hI hL hP hD hS ht)
theorem ab_dup2 {v w : Value} (hd : decode M.2.1 pc = .ok (.dup2, 1)) (hc : v.category = 1) (hw : w.category = 1) (k : ab_V M d mc ms tt Q kc ks (pc + 1) ls (v :: w :: v :: w :: st) σ) : ab_V M d mc ms tt Q kc ks (pc) ls (v :: w :: st) σ := by
  intro p l e s m args below meth c H locs lsA G A hI hL hP hD hS ht
  exact lv_dup2_11 hI.1 hI.2.1 hd ((ab_c_cat G v).trans hc) ((ab_c_cat G w).trans hw) (k p l e s m args below meth c H locs lsA G A hI hL hP hD hS ht)
theorem ab_dup_x1 {v w : Value} (hd : decode M.2.1 pc = .ok (.dup_x1, 1)) (hc : v.category = 1) (hw : w.category = 1) (k : ab_V M d mc ms tt Q kc ks (pc + 1) ls (v :: w :: v :: st) σ) : ab_V M d mc ms tt Q kc ks (pc) ls (v :: w :: st) σ := by
  intro p l e s m args below meth c H locs lsA G A hI hL hP hD hS ht
  exact lv_dup_x1 hI.1 hI.2.1 hd ((ab_c_cat G v).trans hc) ((ab_c_cat G w).trans hw) (k p l e s m args below meth c H locs lsA G A hI hL hP hD hS ht)
theorem ab_pop {v : Value} (hd : decode M.2.1 pc = .ok (.pop, 1)) (hc : v.category = 1) (k : ab_V M d mc ms tt Q kc ks (pc + 1) ls (st) σ) : ab_V M d mc ms tt Q kc ks (pc) ls (v :: st) σ := by
  intro p l e s m args below meth c H locs lsA G A hI hL hP hD hS ht
  exact lv_pop hI.1 hI.2.1 hd ((ab_c_cat G v).trans hc) (k p l e s m args below meth c H locs lsA G A hI hL hP hD hS ht)
theorem ab_goto {off : Int} {tgt : Nat} (hd : decode M.2.1 pc = .ok (.goto off, 3)) (htg : (pc : Int) + off = (tgt : Int)) (k : ab_V M d mc ms tt Q kc ks (tgt) ls (st) σ) : ab_V M d mc ms tt Q kc ks (pc) ls (st) σ := by
  intro p l e s m args below meth c H locs lsA G A hI hL hP hD hS ht
  exact lv_goto hI.1 hI.2.1 hd htg (k p l e s m args below meth c H locs lsA G A hI hL hP hD hS ht)
theorem ab_if_eq {x : Int32} {off : Int} {tgt : Nat} (hd : decode M.2.1 pc = .ok (.ifCond .eq off, 3)) (htg : (pc : Int) + off = (tgt : Int)) (kt : x = 0 → ab_V M d mc ms tt Q kc ks (tgt) ls (st) σ) (kf : ¬ x = 0 → ab_V M d mc ms tt Q kc ks (pc + 3) ls (st) σ) : ab_V M d mc ms tt Q kc ks (pc) ls (.int x :: st) σ := by
  intro p l e s m args below meth c H locs lsA G A hI hL hP hD hS ht
  exact lv_if_eq hI.1 hI.2.1 hd htg (fun h => kt h p l e s m args below meth c H locs lsA G A hI hL hP hD hS ht) (fun h => kf h p l e s m args below meth c H locs lsA G A hI hL hP hD hS ht)
theorem ab_icmp_eq {x y : Int32} {off : Int} {tgt : Nat} (hd : decode M.2.1 pc = .ok (.if_icmp .eq off, 3)) (htg : (pc : Int) + off = (tgt : Int)) (kt : x = y → ab_V M d mc ms tt Q kc ks (tgt) ls (st) σ) (kf : ¬ x = y → ab_V M d mc ms tt Q kc ks (pc + 3) ls (st) σ) : ab_V M d mc ms tt Q kc ks (pc) ls (.int y :: .int x :: st) σ := by
  intro p l e s m args below meth c H locs lsA G A hI hL hP hD hS ht
  exact lv_icmp_eq hI.1 hI.2.1 hd htg (fun h => kt h p l e s m args below meth c H locs lsA G A hI hL hP hD hS ht) (fun h => kf h p l e s m args below meth c H locs lsA G A hI hL hP hD hS ht)
theorem ab_if_ne {x : Int32} {off : Int} {tgt : Nat} (hd : decode M.2.1 pc = .ok (.ifCond .ne off, 3)) (htg : (pc : Int) + off = (tgt : Int)) (kt : ¬ x = 0 → ab_V M d mc ms tt Q kc ks (tgt) ls (st) σ) (kf : x = 0 → ab_V M d mc ms tt Q kc ks (pc + 3) ls (st) σ) : ab_V M d mc ms tt Q kc ks (pc) ls (.int x :: st) σ := by
  intro p l e s m args below meth c H locs lsA G A hI hL hP hD hS ht
  exact lv_if_ne hI.1 hI.2.1 hd htg (fun h => kt h p l e s m args below meth c H locs lsA G A hI hL hP hD hS ht) (fun h => kf h p l e s m args below meth c H locs lsA G A hI hL hP hD hS ht)
theorem ab_icmp_ne {x y : Int32} {off : Int} {tgt : Nat} (hd : decode M.2.1 pc = .ok (.if_icmp .ne off, 3)) (htg : (pc : Int) + off = (tgt : Int)) (kt : ¬ x = y → ab_V M d mc ms tt Q kc ks (tgt) ls (st) σ) (kf : x = y → ab_V M d mc ms tt Q kc ks (pc + 3) ls (st) σ) : ab_V M d mc ms tt Q kc ks (pc) ls (.int y :: .int x :: st) σ := by
  intro p l e s m args below meth c H locs lsA G A hI hL hP hD hS ht
  exact lv_icmp_ne hI.1 hI.2.1 hd htg (fun h => kt h p l e s m args below meth c H locs lsA G A hI hL hP hD hS ht) (fun h => kf h p l e s m args below meth c H locs lsA G A hI hL hP hD hS ht)
theorem ab_if_lt {x : Int32} {off : Int} {tgt : Nat} (hd : decode M.2.1 pc = .ok (.ifCond .lt off, 3)) (htg : (pc : Int) + off = (tgt : Int)) (kt : x < 0 → ab_V M d mc ms tt Q kc ks (tgt) ls (st) σ) (kf : ¬ x < 0 → ab_V M d mc ms tt Q kc ks (pc + 3) ls (st) σ) : ab_V M d mc ms tt Q kc ks (pc) ls (.int x :: st) σ := by
  intro p l e s m args below meth c H locs lsA G A hI hL hP hD hS ht
  exact lv_if_lt hI.1 hI.2.1 hd htg (fun h => kt h p l e s m args below meth c H locs lsA G A hI hL hP hD hS ht) (fun h => kf h p l e s m args below meth c H locs lsA G A hI hL hP hD hS ht)
theorem ab_icmp_lt {x y : Int32} {off : Int} {tgt : Nat} (hd : decode M.2.1 pc = .ok (.if_icmp .lt off, 3)) (htg : (pc : Int) + off = (tgt : Int)) (kt : x < y → ab_V M d mc ms tt Q kc ks (tgt) ls (st) σ) (kf : ¬ x < y → ab_V M d mc ms tt Q kc ks (pc + 3) ls (st) σ) : ab_V M d mc ms tt Q kc ks (pc) ls (.int y :: .int x :: st) σ := by
  intro p l e s m args below meth c H locs lsA G A hI hL hP hD hS ht
  exact lv_icmp_lt hI.1 hI.2.1 hd htg (fun h => kt h p l e s m args below meth c H locs lsA G A hI hL hP hD hS ht) (fun h => kf h p l e s m args below meth c H locs lsA G A hI hL hP hD hS ht)
theorem ab_if_ge {x : Int32} {off : Int} {tgt : Nat} (hd : decode M.2.1 pc = .ok (.ifCond .ge off, 3)) (htg : (pc : Int) + off = (tgt : Int)) (kt : 0 ≤ x → ab_V M d mc ms tt Q kc ks (tgt) ls (st) σ) (kf : ¬ 0 ≤ x → ab_V M d mc ms tt Q kc ks (pc + 3) ls (st) σ) : ab_V M d mc ms tt Q kc ks (pc) ls (.int x :: st) σ := by
  intro p l e s m args below meth c H locs lsA G A hI hL hP hD hS ht
  exact lv_if_ge hI.1 hI.2.1 hd htg (fun h => kt h p l e s m args below meth c H locs lsA G A hI hL hP hD hS ht) (fun h => kf h p l e s m args below meth c H locs lsA G A hI hL hP hD hS ht)
theorem ab_icmp_ge {x y : Int32} {off : Int} {tgt : Nat} (hd : decode M.2.1 pc = .ok (.if_icmp .ge off, 3)) (htg : (pc : Int) + off = (tgt : Int)) (kt : y ≤ x → ab_V M d mc ms tt Q kc ks (tgt) ls (st) σ) (kf : ¬ y ≤ x → ab_V M d mc ms tt Q kc ks (pc + 3) ls (st) σ) : ab_V M d mc ms tt Q kc ks (pc) ls (.int y :: .int x :: st) σ := by
  intro p l e s m args below meth c H locs lsA G A hI hL hP hD hS ht
  exact lv_icmp_ge hI.1 hI.2.1 hd htg (fun h => kt h p l e s m args below meth c H locs lsA G A hI hL hP hD hS ht) (fun h => kf h p l e s m args below meth c H locs lsA G A hI hL hP hD hS ht)
theorem ab_if_gt {x : Int32} {off : Int} {tgt : Nat} (hd : decode M.2.1 pc = .ok (.ifCond .gt off, 3)) (htg : (pc : Int) + off = (tgt : Int)) (kt : 0 < x → ab_V M d mc ms tt Q kc ks (tgt) ls (st) σ) (kf : ¬ 0 < x → ab_V M d mc ms tt Q kc ks (pc + 3) ls (st) σ) : ab_V M d mc ms tt Q kc ks (pc) ls (.int x :: st) σ := by
  intro p l e s m args below meth c H locs lsA G A hI hL hP hD hS ht
  exact lv_if_gt hI.1 hI.2.1 hd htg (fun h => kt h p l e s m args below meth c H locs lsA G A hI hL hP hD hS ht) (fun h => kf h p l e s m args below meth c H locs lsA G A hI hL hP hD hS ht)
theorem ab_icmp_gt {x y : Int32} {off : Int} {tgt : Nat} (hd : decode M.2.1 pc = .ok (.if_icmp .gt off, 3)) (htg : (pc : Int) + off = (tgt : Int)) (kt : y < x → ab_V M d mc ms tt Q kc ks (tgt) ls (st) σ) (kf : ¬ y < x → ab_V M d mc ms tt Q kc ks (pc + 3) ls (st) σ) : ab_V M d mc ms tt Q kc ks (pc) ls (.int y :: .int x :: st) σ := by
  intro p l e s m args below meth c H locs lsA G A hI hL hP hD hS ht
  exact lv_icmp_gt hI.1 hI.2.1 hd htg (fun h => kt h p l e s m args below meth c H locs lsA G A hI hL hP hD hS ht) (fun h => kf h p l e s m args below meth c H locs lsA G A hI hL hP hD hS ht)
theorem ab_if_le {x : Int32} {off : Int} {tgt : Nat} (hd : decode M.2.1 pc = .ok (.ifCond .le off, 3)) (htg : (pc : Int) + off = (tgt : Int)) (kt : x ≤ 0 → ab_V M d mc ms tt Q kc ks (tgt) ls (st) σ) (kf : ¬ x ≤ 0 → ab_V M d mc ms tt Q kc ks (pc + 3) ls (st) σ) : ab_V M d mc ms tt Q kc ks (pc) ls (.int x :: st) σ := by
  intro p l e s m args below meth c H locs lsA G A hI hL hP hD hS ht
  exact lv_if_le hI.1 hI.2.1 hd htg (fun h => kt h p l e s m args below meth c H locs lsA G A hI hL hP hD hS ht) (fun h => kf h p l e s m args below meth c H locs lsA G A hI hL hP hD hS ht)
theorem ab_icmp_le {x y : Int32} {off : Int} {tgt : Nat} (hd : decode M.2.1 pc = .ok (.if_icmp .le off, 3)) (htg : (pc : Int) + off = (tgt : Int)) (kt : x ≤ y → ab_V M d mc ms tt Q kc ks (tgt) ls (st) σ) (kf : ¬ x ≤ y → ab_V M d mc ms tt Q kc ks (pc + 3) ls (st) σ) : ab_V M d mc ms tt Q kc ks (pc) ls (.int y :: .int x :: st) σ := by
  intro p l e s m args below meth c H locs lsA G A hI hL hP hD hS ht
  exact lv_icmp_le hI.1 hI.2.1 hd htg (fun h => kt h p l e s m args below meth c H locs lsA G A hI hL hP hD hS ht) (fun h => kf h p l e s m args below meth c H locs lsA G A hI hL hP hD hS ht)
theorem ab_ifnull {x : Nat} {off : Int} (hd : decode M.2.1 pc = .ok (.ifnull off, 3)) (k : ab_V M d mc ms tt Q kc ks (pc + 3) ls (st) σ) : ab_V M d mc ms tt Q kc ks (pc) ls (.ref x :: st) σ := by
  intro p l e s m args below meth c H locs lsA G A hI hL hP hD hS ht
  exact lv_ifnull hI.1 hI.2.1 hd (k p l e s m args below meth c H locs lsA G A hI hL hP hD hS ht)
theorem ab_ifnullN {off : Int} {tgt : Nat} (hd : decode M.2.1 pc = .ok (.ifnull off, 3)) (htg : (pc : Int) + off = (tgt : Int)) (k : ab_V M d mc ms tt Q kc ks (tgt) ls (st) σ) : ab_V M d mc ms tt Q kc ks (pc) ls (.null :: st) σ := by
  intro p l e s m args below meth c H locs lsA G A hI hL hP hD hS ht
  exact lv_ifnullN hI.1 hI.2.1 hd htg (k p l e s m args below meth c H locs lsA G A hI hL hP hD hS ht)
theorem ab_ifnonnull {x : Nat} {off : Int} {tgt : Nat} (hd : decode M.2.1 pc = .ok (.ifnonnull off, 3)) (htg : (pc : Int) + off = (tgt : Int)) (k : ab_V M d mc ms tt Q kc ks (tgt) ls (st) σ) : ab_V M d mc ms tt Q kc ks (pc) ls (.ref x :: st) σ := by
  intro p l e s m args below meth c H locs lsA G A hI hL hP hD hS ht
  exact lv_ifnonnull hI.1 hI.2.1 hd htg (k p l e s m args below meth c H locs lsA G A hI hL hP hD hS ht)
theorem ab_ifnonnullN {off : Int} (hd : decode M.2.1 pc = .ok (.ifnonnull off, 3)) (k : ab_V M d mc ms tt Q kc ks (pc + 3) ls (st) σ) : ab_V M d mc ms tt Q kc ks (pc) ls (.null :: st) σ := by
  intro p l e s m args below meth c H locs lsA G A hI hL hP hD hS ht
  exact lv_ifnonnullN hI.1 hI.2.1 hd (k p l e s m args below meth c H locs lsA G A hI hL hP hD hS ht)
end ABV
end
section
section ABH
variable {M : ab_M} {d mc ms : Nat} {tt : Prop} {Q : Option Value → ab_S → Prop} {kc ks pc : Nat} {ls : List (Option Value)} {st : List Value} {σ : ab_S}
theorem ab_nf_of {ci : Nat} {C : String} {T : u_T} {N : Nat} (h : vwCl[ci]? = some (C, T, N)) : ab_nf ci = N := by
  simp only [ab_nf, h]
theorem ab_lt_of {ci : Nat} {r : vw_C} (h : vwCl[ci]? = some r) : ci < 100 := by
  have := (List.getElem?_eq_some_iff.mp h).1
  have ee : vwCl.length = 12 := rfl
  omega
theorem ab_le {p : Program} {l : Launch} {e : Env} {R : Room} {s : State} {m : MethodId} {args : Array Value} {below : List Frame} {meth : Method} {c : Code} {H : Heap} {locs : List Loc} {cells slots : Nat} {Qx : State → Prop} {g : JFrame} (h : H.size ≤ s.heap.size + cells → W p l e R s m args below meth c H locs cells slots Qx g) : W p l e R s m args below meth c H locs cells slots Qx g :=
  fun T hT X => h (by rw [← hT]; exact X.heapSize) T hT X
theorem ab_S0 {A : Nat → Prop} {H0 H : Heap} {locs : List Loc} (h : va_S A H0 H locs) : va_S A H H locs := ⟨Nat.le_refl _, fun _ _ _ => rfl, h.2.2⟩
theorem ab_S2 {A : Nat → Prop} {H0 H H1 : Heap} {locs locs1 : List Loc} (h : va_S A H0 H locs) (h1 : va_S A H H1 locs1) : va_S A H0 H1 locs1 := ⟨Nat.le_trans h.1 h1.1, fun q hq hA => (h1.2.1 q (Nat.lt_of_lt_of_le hq h.1) hA).trans (h.2.1 q hq hA), h1.2.2⟩
theorem ab_fs_at {G : ab_G} {σ : ab_S} {ci q j : Nat} (h : j < ab_nf ci) : ((List.range (ab_nf ci)).map (ab_fv G σ ci q))[j]? = some (ab_fv G σ ci q j) := by
  simp [h]
theorem ab_getI {idx ci j q : Nat} (hd : decode M.2.1 pc = .ok (.getfield idx, 3)) (hf : ab_FL M.1.cls idx ci j) (hk : ab_is σ q ci) (hr : ab_isR (ab_ty ci j) = false) (k : ab_V M d mc ms tt Q kc ks (pc + 3) ls (.int (σ.2.2.1 q j) :: st) σ) : ab_V M d mc ms tt Q kc ks (pc) ls (.ref q :: st) σ := by
  intro p l e s m args below meth c H locs lsA G A hI hL hP hD hS ht
  obtain ⟨C, T, N, hc, hj, hw⟩ := hf
  refine va_get hI.1 hI.2.1 (hts := hI.2.2.2.2.2.1) (ab_cls hc).1 hI.2.2.2.2.1 hI.2.2.2.2.2.2.2.2.2.1.1 hP q (ab_ws_obj hk (ab_lt_of hc)) hc j hj (hI.2.2.2.2.2.1 _ hw) (fun _ h => h) (ab_fs_at (by rw [ab_nf_of hc]; exact hj)) hd ?_
  have ee : ab_fv G σ ci q j = .int (σ.2.2.1 q j) := by simp [ab_fv, hr]
  rw [ee]
  exact (k p l e s m args below meth c H locs lsA G A hI hL hP hD hS ht)
theorem ab_getR {idx ci j q x : Nat} (hd : decode M.2.1 pc = .ok (.getfield idx, 3)) (hf : ab_FL M.1.cls idx ci j) (hk : ab_is σ q ci) (hr : ab_isR (ab_ty ci j) = true) (hx : σ.2.2.2 q j = some x) (k : ab_V M d mc ms tt Q kc ks (pc + 3) ls (.ref x :: st) σ) : ab_V M d mc ms tt Q kc ks (pc) ls (.ref q :: st) σ := by
  intro p l e s m args below meth c H locs lsA G A hI hL hP hD hS ht
  obtain ⟨C, T, N, hc, hj, hw⟩ := hf
  refine va_get hI.1 hI.2.1 (hts := hI.2.2.2.2.2.1) (ab_cls hc).1 hI.2.2.2.2.1 hI.2.2.2.2.2.2.2.2.2.1.1 hP q (ab_ws_obj hk (ab_lt_of hc)) hc j hj (hI.2.2.2.2.2.1 _ hw) (fun _ h => h) (ab_fs_at (by rw [ab_nf_of hc]; exact hj)) hd ?_
  have ee : ab_fv G σ ci q j = .ref (ab_a G x) := by simp [ab_fv, hr, hx, va_rf]
  rw [ee]
  exact (k p l e s m args below meth c H locs lsA G A hI hL hP hD hS ht)
/-- what an int field may take -/
def ab_ok (t : FieldType) (v : Int32) : Prop := narrow t (.int v) = .int v ∧ fits t (.int v) = true
theorem ab_ok_i (v : Int32) : ab_ok .int v := ⟨rfl, rfl⟩
theorem ab_ok_b {v : Int32} (h : v = 0 ∨ v = 1) : ab_ok .boolean v := by
  rcases h with rfl | rfl <;> exact ⟨by decide, by decide⟩
def ab_pf (M : ab_M) (ci j : Nat) : Prop := ∀ (C : String) (T : u_T) (N : Nat), vwCl[ci]? = some (C, T, N) → (T j).2.2.2 = false ∨ ((T j).2.2.2 = true ∧ M.1.name = "<init>" ∧ (T j).1 = M.1.cls)
theorem ab_putI {idx ci j q : Nat} {v : Int32} (hd : decode M.2.1 pc = .ok (.putfield idx, 3)) (hf : ab_FL M.1.cls idx ci j) (hk : ab_is σ q ci) (hr : ab_isR (ab_ty ci j) = false) (hp : ab_pf M ci j) (hv : ab_ok (ab_ty ci j) v) (k : ab_V M d mc ms tt Q kc ks (pc + 3) ls (st) (ab_si σ q j v)) : ab_V M d mc ms tt Q kc ks (pc) ls (.int v :: .ref q :: st) σ := by
  intro p l e s m args below meth c H locs lsA G A hI hL hP hD hS ht
  obtain ⟨C, T, N, hc, hj, hw⟩ := hf
  have hl : j < ((List.range (ab_nf ci)).map (ab_fv G σ ci q)).length := by simp [ab_nf_of hc, hj]
  have go : ∀ (H1 : Heap) (locs1 : List Loc), va_P G.2.2.2 vwCl ((ab_ws G σ).set q (ab_a G q, .inr (ci, ((List.range (ab_nf ci)).map (ab_fv G σ ci q)).set j (.int v)))) H1 → va_D A ((ab_ws G σ).set q (ab_a G q, .inr (ci, ((List.range (ab_nf ci)).map (ab_fv G σ ci q)).set j (.int v)))) → va_S A H H1 locs1 → W p l e (ab_rm d mc ms) s m args below meth c H1 locs1 kc ks (MQ below (ab_Q G tt mc Q A) args s mc ms A) (F0 m (pc + 3) lsA (st.map (ab_c G))) := by
    intro H1 locs1 hP1 hD1 hS1
    refine ab_le (fun hz => ?_)
    rw [ab_set_fi hk (ab_lt_of hc) hr] at hP1 hD1
    exact k p l e s m args below meth c H1 locs1 lsA G A hI hL hP1 hD1 (ab_S2 hS hS1) (fun h => by have h1 := ht h; have h2 := hS1.1; exact ⟨by omega, by first | (have h3 : (ab_si σ q j v).1 = σ.1 := rfl; omega) | (have h3 : (ab_sr σ q j (some v)).1 = σ.1 := rfl; omega) | (have h3 : (ab_si σ q i.toNatClampNeg x).1 = σ.1 := rfl; omega)⟩)
  rcases hp C T N hc with h0 | ⟨h0, h1, h2⟩
  · exact va_put hI.1 hI.2.1 (hts := hI.2.2.2.2.2.1) (ab_cls hc).1 (ab_ty ci) (ab_cls hc).2.1 (ab_cls hc).2.2.1 hI.2.2.2.2.1 hI.2.2.2.2.2.2.2.2.2.1.1 hP hD (ab_S0 hS) q (ab_ws_obj hk (ab_lt_of hc)) hc j hj (hI.2.2.2.2.2.1 _ hw) (fun _ h => h) h0 ((ab_cls hc).2.1 j hj) hv.1 hv.2 hl hd go
  · exact va_putF hI.1 hI.2.1 (hts := hI.2.2.2.2.2.1) (ab_cls hc).1 (ab_ty ci) (ab_cls hc).2.1 (ab_cls hc).2.2.1 hI.2.2.2.2.1 hI.2.2.2.2.2.2.2.2.2.1.1 hP hD (ab_S0 hS) q (ab_ws_obj hk (ab_lt_of hc)) hc j hj (hI.2.2.2.2.2.1 _ hw) (fun _ h => h) h0 (hI.2.2.2.2.2.2.2.1.trans h1) h2 ((ab_cls hc).2.1 j hj) hv.1 hv.2 hl hd go
theorem ab_putR {idx ci j q : Nat} {v : Nat} (hd : decode M.2.1 pc = .ok (.putfield idx, 3)) (hf : ab_FL M.1.cls idx ci j) (hk : ab_is σ q ci) (hr : ab_isR (ab_ty ci j) = true) (hp : ab_pf M ci j) (k : ab_V M d mc ms tt Q kc ks (pc + 3) ls (st) (ab_sr σ q j (some v))) : ab_V M d mc ms tt Q kc ks (pc) ls (.ref v :: .ref q :: st) σ := by
  intro p l e s m args below meth c H locs lsA G A hI hL hP hD hS ht
  obtain ⟨C, T, N, hc, hj, hw⟩ := hf
  have hv : narrow (ab_ty ci j) (.ref (ab_a G v)) = .ref (ab_a G v) ∧ fits (ab_ty ci j) (.ref (ab_a G v)) = true := by
    cases h : ab_ty ci j <;> rw [h] at hr <;> first | exact ⟨rfl, rfl⟩ | cases hr
  have hl : j < ((List.range (ab_nf ci)).map (ab_fv G σ ci q)).length := by simp [ab_nf_of hc, hj]
  have go : ∀ (H1 : Heap) (locs1 : List Loc), va_P G.2.2.2 vwCl ((ab_ws G σ).set q (ab_a G q, .inr (ci, ((List.range (ab_nf ci)).map (ab_fv G σ ci q)).set j (.ref (ab_a G v))))) H1 → va_D A ((ab_ws G σ).set q (ab_a G q, .inr (ci, ((List.range (ab_nf ci)).map (ab_fv G σ ci q)).set j (.ref (ab_a G v))))) → va_S A H H1 locs1 → W p l e (ab_rm d mc ms) s m args below meth c H1 locs1 kc ks (MQ below (ab_Q G tt mc Q A) args s mc ms A) (F0 m (pc + 3) lsA (st.map (ab_c G))) := by
    intro H1 locs1 hP1 hD1 hS1
    refine ab_le (fun hz => ?_)
    have ee := ab_set_fr (G := G) (v := some v) hk (ab_lt_of hc) hr
    rw [show va_rf ((some v).map (ab_a G)) = .ref (ab_a G v) from rfl] at ee
    rw [ee] at hP1 hD1
    exact k p l e s m args below meth c H1 locs1 lsA G A hI hL hP1 hD1 (ab_S2 hS hS1) (fun h => by have h1 := ht h; have h2 := hS1.1; exact ⟨by omega, by first | (have h3 : (ab_si σ q j v).1 = σ.1 := rfl; omega) | (have h3 : (ab_sr σ q j (some v)).1 = σ.1 := rfl; omega) | (have h3 : (ab_si σ q i.toNatClampNeg x).1 = σ.1 := rfl; omega)⟩)
  rcases hp C T N hc with h0 | ⟨h0, h1, h2⟩
  · exact va_put hI.1 hI.2.1 (hts := hI.2.2.2.2.2.1) (ab_cls hc).1 (ab_ty ci) (ab_cls hc).2.1 (ab_cls hc).2.2.1 hI.2.2.2.2.1 hI.2.2.2.2.2.2.2.2.2.1.1 hP hD (ab_S0 hS) q (ab_ws_obj hk (ab_lt_of hc)) hc j hj (hI.2.2.2.2.2.1 _ hw) (fun _ h => h) h0 ((ab_cls hc).2.1 j hj) hv.1 hv.2 hl hd go
  · exact va_putF hI.1 hI.2.1 (hts := hI.2.2.2.2.2.1) (ab_cls hc).1 (ab_ty ci) (ab_cls hc).2.1 (ab_cls hc).2.2.1 hI.2.2.2.2.1 hI.2.2.2.2.2.2.2.2.2.1.1 hP hD (ab_S0 hS) q (ab_ws_obj hk (ab_lt_of hc)) hc j hj (hI.2.2.2.2.2.1 _ hw) (fun _ h => h) h0 (hI.2.2.2.2.2.2.2.1.trans h1) h2 ((ab_cls hc).2.1 j hj) hv.1 hv.2 hl hd go
theorem ab_iald {q : Nat} {i : Int32} (hd : decode M.2.1 pc = .ok (.iaload, 1)) (hk : ab_is σ q 100) (hi : vp_in i (σ.2.1 q).2) (k : ab_V M d mc ms tt Q kc ks (pc + 1) ls (.int (σ.2.2.1 q i.toNatClampNeg) :: st) σ) : ab_V M d mc ms tt Q kc ks (pc) ls (.int i :: .ref q :: st) σ := by
  intro p l e s m args below meth c H locs lsA G A hI hL hP hD hS ht
  have ha := ab_ws_arr (G := G) hk (by decide)
  rw [ab_arr, hk.2, if_pos (by decide)] at ha
  exact va_iald hI.1 hI.2.1 hI.2.2.2.2.2.2.2.2.2.1.1 hP q 0 ha rfl hi hd (k p l e s m args below meth c H locs lsA G A hI hL hP hD hS ht)
theorem ab_zald {q : Nat} {i : Int32} (hd : decode M.2.1 pc = .ok (.baload, 1)) (hk : ab_is σ q 101) (hi : vp_in i (σ.2.1 q).2) (k : ab_V M d mc ms tt Q kc ks (pc + 1) ls (.int (σ.2.2.1 q i.toNatClampNeg) :: st) σ) : ab_V M d mc ms tt Q kc ks (pc) ls (.int i :: .ref q :: st) σ := by
  intro p l e s m args below meth c H locs lsA G A hI hL hP hD hS ht
  have ha := ab_ws_arr (G := G) hk (by decide)
  rw [ab_arr, hk.2, if_pos (by decide)] at ha
  exact va_zald hI.1 hI.2.1 hI.2.2.2.2.2.2.2.2.2.1.1 hP q 1 ha rfl hi hd (k p l e s m args below meth c H locs lsA G A hI hL hP hD hS ht)
theorem ab_tld {i : Int32} (hd : decode M.2.1 pc = .ok (.iaload, 1)) (hi : vp_in i 12) (k : ab_V M d mc ms tt Q kc ks (pc + 1) ls (.int (ab_al i.toNatClampNeg) :: st) σ) : ab_V M d mc ms tt Q kc ks (pc) ls (.int i :: .ref 1000000 :: st) σ := by
  intro p l e s m args below meth c H locs lsA G A hI hL hP hD hS ht
  exact va_ti hI.1 hI.2.1 hI.2.2.2.2.2.2.2.2.2.2.2 hS hi rfl hd (k p l e s m args below meth c H locs lsA G A hI hL hP hD hS ht)
theorem ab_aald {q x : Nat} {i : Int32} {kd : Nat} (hd : decode M.2.1 pc = .ok (.aaload, 1)) (hk : ab_is σ q kd) (hkd : kd = 102 ∨ kd = 103) (hi : vp_in i (σ.2.1 q).2) (hx : σ.2.2.2 q i.toNatClampNeg = some x) (k : ab_V M d mc ms tt Q kc ks (pc + 1) ls (.ref x :: st) σ) : ab_V M d mc ms tt Q kc ks (pc) ls (.int i :: .ref q :: st) σ := by
  intro p l e s m args below meth c H locs lsA G A hI hL hP hD hS ht
  have go : W p l e (ab_rm d mc ms) s m args below meth c H locs kc ks (MQ below (ab_Q G tt mc Q A) args s mc ms A) (F0 m (pc + 1) lsA (va_rf ((fun j => (σ.2.2.2 q j).map (ab_a G)) i.toNatClampNeg) :: st.map (ab_c G))) := by
    simp only [hx, Option.map_some, va_rf]
    exact (k p l e s m args below meth c H locs lsA G A hI hL hP hD hS ht)
  rcases hkd with rfl | rfl
  · have ha := ab_ws_arr (G := G) hk (by decide)
    rw [ab_arr, hk.2, if_neg (by decide)] at ha
    exact va_aldq hI.1 hI.2.1 hI.2.2.2.2.2.2.2.2.2.1.1 hP q 2 ha rfl hi hd go
  · have ha := ab_ws_arr (G := G) hk (by decide)
    rw [ab_arr, hk.2, if_neg (by decide)] at ha
    exact va_aldq hI.1 hI.2.1 hI.2.2.2.2.2.2.2.2.2.1.1 hP q 3 ha rfl hi hd go
theorem ab_alen {q kd : Nat} (hd : decode M.2.1 pc = .ok (.arraylength, 1)) (hk : ab_is σ q kd) (hkd : kd = 100 ∨ kd = 101) (k : ab_V M d mc ms tt Q kc ks (pc + 1) ls (.int (nI (σ.2.1 q).2) :: st) σ) : ab_V M d mc ms tt Q kc ks (pc) ls (.ref q :: st) σ := by
  intro p l e s m args below meth c H locs lsA G A hI hL hP hD hS ht
  rcases hkd with rfl | rfl
  · exact va_alen hI.1 hI.2.1 hI.2.2.2.2.2.2.2.2.2.1.1 hP q 0 (ab_ws_arr (G := G) hk (by decide)) rfl rfl hd (k p l e s m args below meth c H locs lsA G A hI hL hP hD hS ht)
  · exact va_alen hI.1 hI.2.1 hI.2.2.2.2.2.2.2.2.2.1.1 hP q 1 (ab_ws_arr (G := G) hk (by decide)) rfl rfl hd (k p l e s m args below meth c H locs lsA G A hI hL hP hD hS ht)
theorem ab_iast {q : Nat} {i x : Int32} (hd : decode M.2.1 pc = .ok (.iastore, 1)) (hk : ab_is σ q 100) (hi : vp_in i (σ.2.1 q).2) (k : ab_V M d mc ms tt Q kc ks (pc + 1) ls (st) (ab_si σ q i.toNatClampNeg x)) : ab_V M d mc ms tt Q kc ks (pc) ls (.int x :: .int i :: .ref q :: st) σ := by
  intro p l e s m args below meth c H locs lsA G A hI hL hP hD hS ht
  have ha := ab_ws_arr (G := G) hk (by decide)
  rw [ab_arr, hk.2, if_pos (by decide)] at ha
  refine va_iast hI.1 hI.2.1 hI.2.2.2.2.2.2.2.2.2.1.1 hP hD (ab_S0 hS) q 0 ha rfl hi hd (fun H1 locs1 hP1 hD1 hS1 => ?_)
  rw [ab_set_ai hk (by decide) (by decide)] at hP1 hD1
  exact ab_le (fun hz => k p l e s m args below meth c H1 locs1 lsA G A hI hL hP1 hD1 (ab_S2 hS hS1) (fun h => by have h1 := ht h; have h2 := hS1.1; exact ⟨by omega, by first | (have h3 : (ab_si σ q j v).1 = σ.1 := rfl; omega) | (have h3 : (ab_sr σ q j (some v)).1 = σ.1 := rfl; omega) | (have h3 : (ab_si σ q i.toNatClampNeg x).1 = σ.1 := rfl; omega)⟩))
theorem ab_zast {q : Nat} {i x : Int32} (hd : decode M.2.1 pc = .ok (.bastore, 1)) (hk : ab_is σ q 101) (hi : vp_in i (σ.2.1 q).2) (hx : x = 0 ∨ x = 1) (k : ab_V M d mc ms tt Q kc ks (pc + 1) ls (st) (ab_si σ q i.toNatClampNeg x)) : ab_V M d mc ms tt Q kc ks (pc) ls (.int x :: .int i :: .ref q :: st) σ := by
  intro p l e s m args below meth c H locs lsA G A hI hL hP hD hS ht
  have ha := ab_ws_arr (G := G) hk (by decide)
  rw [ab_arr, hk.2, if_pos (by decide)] at ha
  have hn : vp_nar .boolean x = x := by rcases hx with rfl | rfl <;> decide
  refine va_zast hI.1 hI.2.1 hI.2.2.2.2.2.2.2.2.2.1.1 hP hD (ab_S0 hS) q 1 ha rfl hi hd (fun H1 locs1 hP1 hD1 hS1 => ?_)
  rw [hn, ab_set_ai hk (by decide) (by decide)] at hP1 hD1
  exact ab_le (fun hz => k p l e s m args below meth c H1 locs1 lsA G A hI hL hP1 hD1 (ab_S2 hS hS1) (fun h => by have h1 := ht h; have h2 := hS1.1; exact ⟨by omega, by first | (have h3 : (ab_si σ q j v).1 = σ.1 := rfl; omega) | (have h3 : (ab_sr σ q j (some v)).1 = σ.1 := rfl; omega) | (have h3 : (ab_si σ q i.toNatClampNeg x).1 = σ.1 := rfl; omega)⟩))
theorem ab_aast {q x : Nat} {i : Int32} {kd ck : Nat} (hd : decode M.2.1 pc = .ok (.aastore, 1)) (hk : ab_is σ q kd) (hkd : (kd = 102 ∧ ck = 6) ∨ (kd = 103 ∧ ck = 0)) (hi : vp_in i (σ.2.1 q).2) (hx : ab_is σ x ck) (k : ab_V M d mc ms tt Q kc ks (pc + 1) ls (st) (ab_sr σ q i.toNatClampNeg (some x))) : ab_V M d mc ms tt Q kc ks (pc) ls (.ref x :: .int i :: .ref q :: st) σ := by
  intro p l e s m args below meth c H locs lsA G A hI hL hP hD hS ht
  rcases hkd with ⟨rfl, rfl⟩ | ⟨rfl, rfl⟩
  · have ha := ab_ws_arr (G := G) hk (by decide)
    rw [ab_arr, hk.2, if_neg (by decide)] at ha
    refine va_astq hI.1 hI.2.1 hI.2.2.2.2.2.2.2.2.2.1.1 hP hD (ab_S0 hS) q 2 x 6 ha rfl (ab_ws_obj hx (by decide)) (r := (RX6, TX6, 8)) rfl hi hd (fun H1 locs1 hP1 hD1 hS1 => ?_)
    have ee := ab_set_ar (G := G) (σ := σ) (q := q) (j := i.toNatClampNeg) (v := some x) hk (by decide) (by decide)
    rw [show (some x).map (ab_a G) = some (ab_a G x) from rfl] at ee
    rw [ee] at hP1 hD1
    exact ab_le (fun hz => k p l e s m args below meth c H1 locs1 lsA G A hI hL hP1 hD1 (ab_S2 hS hS1) (fun h => by have h1 := ht h; have h2 := hS1.1; exact ⟨by omega, by have h3 : (ab_sr σ q i.toNatClampNeg (some x)).1 = σ.1 := rfl; omega⟩))
  · have ha := ab_ws_arr (G := G) hk (by decide)
    rw [ab_arr, hk.2, if_neg (by decide)] at ha
    refine va_astq hI.1 hI.2.1 hI.2.2.2.2.2.2.2.2.2.1.1 hP hD (ab_S0 hS) q 3 x 0 ha rfl (ab_ws_obj hx (by decide)) (r := (RX0, TX0, 2)) rfl hi hd (fun H1 locs1 hP1 hD1 hS1 => ?_)
    have ee := ab_set_ar (G := G) (σ := σ) (q := q) (j := i.toNatClampNeg) (v := some x) hk (by decide) (by decide)
    rw [show (some x).map (ab_a G) = some (ab_a G x) from rfl] at ee
    rw [ee] at hP1 hD1
    exact ab_le (fun hz => k p l e s m args below meth c H1 locs1 lsA G A hI hL hP1 hD1 (ab_S2 hS hS1) (fun h => by have h1 := ht h; have h2 := hS1.1; exact ⟨by omega, by have h3 : (ab_sr σ q i.toNatClampNeg (some x)).1 = σ.1 := rfl; omega⟩))
theorem ab_gets (hd : decode M.2.1 pc = .ok (.getstatic 59, 3)) (hM : M.1.cls = RX1) (k : ab_V M d mc ms tt Q kc ks (pc + 3) ls (.ref 1000000 :: st) σ) : ab_V M d mc ms tt Q kc ks (pc) ls (st) σ := by
  intro p l e s m args below meth c H locs lsA G A hI hL hP hD hS ht
  have hn := hI.2.2.2.2.2.2.2.2.2.1.2.2.2.2 (Cond.fieldLinkNest RX1 59 "ServerHouse" "ALLOWED" "[I" "ServerHouse") (by simp [ab_nestf])
  exact va_getsN hI.1 hI.2.1 hI.2.2.2.2.2.2.2.2.2.2.1 hS (own := RX1) (by rw [← hM]; exact hI.2.2.2.2.1) (va_Nw.use rfl hn) (fun _ h => h) hd (k p l e s m args below meth c H locs lsA G A hI hL hP hD hS ht)
end ABH
end
section
/-! NEW CELLS, CALLS, ENDS -/
theorem ab_nest_is : ∀ w ∈ ab_nest, ∃ (a : String) (i : Nat) (x : MethodName) (h : String), w = .methodLinkNest a i x h := by
  intro w hw
  simp only [ab_nest, List.mem_cons, List.not_mem_nil, or_false] at hw
  rcases hw with rfl | rfl | rfl | rfl | rfl | rfl | rfl | rfl | rfl | rfl | rfl | rfl <;> exact ⟨_, _, _, _, rfl⟩
theorem ab_nestf_is : ∀ w ∈ ab_nestf, ∃ (a : String) (i : Nat) (b n d h : String), w = .fieldLinkNest a i b n d h := by
  intro w hw
  simp only [ab_nestf, List.mem_cons, List.not_mem_nil, or_false] at hw
  subst hw
  exact ⟨_, _, _, _, _, _, rfl⟩
theorem ab_K.warm {G : ab_G} {s U : State} (hW : s.WarmedH U.vm) (h : ab_K G s) : ab_K G U := by
  refine ⟨va_K.moved hW.alike h.1, va_AO.moved hW.alike h.2.1, va_AO.moved hW.alike h.2.2.1, fun w hw => ?_, fun w hw => ?_⟩
  · obtain ⟨a, i, x, hh, rfl⟩ := ab_nest_is w hw
    exact va_Nw.warmM hW (h.2.2.2.1 _ hw)
  · obtain ⟨a, i, b, n, d, hh, rfl⟩ := ab_nestf_is w hw
    exact va_Nw.warmF hW (h.2.2.2.2 _ hw)
theorem ab_K.same {G : ab_G} {s U : State} (hW : s.vm = U.vm) (h : ab_K G s) : ab_K G U := by
  have ha : s.vm.Alike U.vm := by rw [hW]; exact Vm.Alike.refl _
  refine ⟨va_K.moved ha h.1, va_AO.moved ha h.2.1, va_AO.moved ha h.2.2.1, fun w hw => ?_, fun w hw => ?_⟩
  · obtain ⟨a, i, x, hh, rfl⟩ := ab_nest_is w hw
    exact va_Nw.same rfl hW (h.2.2.2.1 _ hw)
  · obtain ⟨a, i, b, n, d, hh, rfl⟩ := ab_nestf_is w hw
    exact va_Nw.same rfl hW (h.2.2.2.2 _ hw)
theorem ab_Z.moved {G : ab_G} {A : Nat → Prop} {s U : State} {H : Heap} (ha : s.vm.Alike U.vm) (h : ab_Z G A s H) : ab_Z G A U H := ⟨va_Z.moved ha h.1, va_T.moved ha h.2⟩
theorem ab_Z.kept {G : ab_G} {A : Nat → Prop} {U : State} {H H1 : Heap} (h : ab_Z G A U H) (hq : ∀ a : Nat, a < H.size → ¬ A a → H1[a]? = H[a]?) : ab_Z G A U H1 := ⟨h.1.kept hq, h.2.kept hq⟩
theorem ab_Z.narrow {G : ab_G} {A B : Nat → Prop} {U : State} {H : Heap} (h : ab_Z G A U H) (hAB : ∀ q, B q → A q) : ab_Z G B U H := ⟨h.1.narrow hAB, h.2.narrow hAB⟩
section ABN
variable {M : ab_M} {d mc ms : Nat} {tt : Prop} {Q : Option Value → ab_S → Prop} {kc ks pc : Nat} {ls : List (Option Value)} {st : List Value} {σ : ab_S}
variable {p : Program} {l : Launch} {e : Env} {R : Room} {s : State} {m : MethodId} {args : Array Value} {below : List Frame} {meth : Method} {c : Code} {H H1 : Heap} {locs : List Loc} {lsA : Array Slot} {G : ab_G} {A : Nat → Prop} {Qx : State → Prop}
theorem ab_grow {kd len : Nat} (hP : va_P G.2.2.2 vwCl (ab_ws G σ) H) (hD : va_D A (ab_ws G σ)) (hS : va_S A s.heap H locs) (hA : ∀ q, s.heap.size ≤ q → A q) (hz : H.size = G.1 + σ.1) (hn : σ.1 < 1000000) (z1 : H1.size = H.size + 1) (o1 : ∀ q, q < H.size → H1[q]? = H[q]?) (hat : va_at G.2.2.2 vwCl (H.size, ab_cell G (ab_nw σ kd len) σ.1) H1) : va_P G.2.2.2 vwCl (ab_ws G (ab_nw σ kd len)) H1 ∧ va_D A (ab_ws G (ab_nw σ kd len)) ∧ va_S A s.heap H1 locs := by
  have ha : ab_a G σ.1 = H.size := by rw [ab_a, if_neg (Nat.ne_of_lt hn)]; exact hz.symm
  have hk : ∀ (k : Nat) (x : Nat × va_E), (ab_ws G σ)[k]? = some x → H1[x.1]? = H[x.1]? := fun k x hx => o1 x.1 ((hP k x hx).lt)
  rw [← ab_push (kd := kd) (len := len), ha]
  refine ⟨(hP.kept hk).app (fun k x hx => ?_), hD.push hP rfl (hA _ hS.1), ⟨Nat.le_trans hS.1 (by omega), fun x h1 h2 => (o1 x (Nat.lt_of_lt_of_le h1 hS.1)).trans (hS.2.1 x h1 h2), hS.2.2⟩⟩
  have hz : k < 1 := (List.getElem?_eq_some_iff.mp hx).1
  rw [show k = 0 by omega] at hx
  cases hx
  exact hat
theorem ab_dv : ∀ ci, ci < 12 → ∀ j, j < 49 → defaultValue (ab_ty ci j) = if ab_isR (ab_ty ci j) = true then .null else .int 0 := by decide +kernel
theorem ab_nf_le : ∀ ci, ci < 12 → ab_nf ci ≤ 49 := by decide +kernel
theorem ab_ci_lt {ci : Nat} {r : vw_C} (h : vwCl[ci]? = some r) : ci < 12 := (List.getElem?_eq_some_iff.mp h).1
theorem ab_new {idx ci : Nat} {C : String} {T : u_T} {N : Nat} (hd : decode M.2.1 pc = .ok (.new idx, 3)) (htt : tt) (hn : σ.1 < 1000000) (hl : Cond.classLink M.1.cls idx C ∈ gw) (hc : vwCl[ci]? = some (C, T, N)) (hm : kc + 1 ≤ mc ∧ ks + N ≤ ms)
    (k : ab_V M d mc ms tt Q (kc + 1) (ks + N) (pc + 3) ls (.ref σ.1 :: st) (ab_nw σ ci N)) : ab_V M d mc ms tt Q kc ks pc ls st σ := by
  intro p l e s m args below meth c H locs lsA G A hI hL hP hD hS ht
  have hKn := hI.2.2.2.2.2.2.2.2.2.1.1.1 ci _ hc
  obtain ⟨t1, t2⟩ := ht htt
  refine W.newcK hI.1 hI.2.1 hI.2.2.2.2.1 (hI.2.2.2.2.2.1 _ hl) (hI.2.2.2.2.2.1 _ (ab_cls hc).2.2.2.1) (hI.2.2.2.2.2.1 _ (ab_cls hc).2.2.2.2) rfl hd hm.1 hm.2 hKn.2.1 rfl fun H1 kC hkC e1 z1 o1 => ?_
  have hat : va_at G.2.2.2 vwCl (H.size, ab_cell G (ab_nw σ ci N) σ.1) H1 := by
    have ec : ab_cell G (ab_nw σ ci N) σ.1 = .inr (ci, (List.range (ab_nf ci)).map (ab_fv G (ab_nw σ ci N) ci σ.1)) := by
      simp [ab_cell, ab_nw, ab_lt_of hc]
    rw [ec]
    refine ⟨_, hc, (u_born (ab_ty ci) hI.2.2.2.2.2.1 (ab_cls hc).1 hKn hkC e1 (ab_cls hc).2.1).to (fun j hj => ?_)⟩
    have hj2 : j < ab_nf ci := by rw [ab_nf_of hc]; exact hj
    rw [ab_dv ci (ab_ci_lt hc) j (Nat.lt_of_lt_of_le hj2 (ab_nf_le ci (ab_ci_lt hc)))]
    simp [vp_V, hj2, ab_fv, ab_nw, va_rf]
  obtain ⟨hP1, hD1, hS1⟩ := ab_grow hP hD hS hI.2.2.2.2.2.2.2.2.1 t2 hn z1 o1 hat
  have ha : ab_a G σ.1 = H.size := by rw [ab_a, if_neg (Nat.ne_of_lt hn)]; exact t2.symm
  have k1 := k p l e s m args below meth c H1 locs lsA G A hI hL hP1 hD1 hS1 (fun _ => ⟨by omega, by have h3 : (ab_nw σ ci N).1 = σ.1 + 1 := rfl; omega⟩)
  rw [List.map_cons, show ab_c G (.ref σ.1) = .ref H.size from congrArg Value.ref ha] at k1
  exact k1
theorem ab_arr_new {kd len : Nat} (hk : 100 ≤ kd) (h2 : kd < 102) (cA : ClassId) : vp_cell cA (ab_arr G (ab_nw σ kd len) σ.1) = arrV cA len (fun _ => .int 0) := by
  have ec : ab_arr G (ab_nw σ kd len) σ.1 = (len, .inl (fun _ => 0)) := by
    simp [ab_arr, ab_nw, h2]
  rw [ec, vp_cell_i]
theorem ab_newa {kd : Nat} {atype : ArrayType} {ty : FieldType} {n : Int32} {len : Nat} (hd : decode M.2.1 pc = .ok (.newarray atype, 2)) (htt : tt) (hn : σ.1 < 1000000) (hty : (atype = .int ∧ kd = 100) ∨ (atype = .boolean ∧ kd = 101)) (hn0 : ¬ n < 0) (hN : n.toNatClampNeg = len) (hb : len ≤ 5000) (hm : kc + 1 ≤ mc ∧ ks + len ≤ ms)
    (k : ab_V M d mc ms tt Q (kc + 1) (ks + len) (pc + 2) ls (.ref σ.1 :: st) (ab_nw σ kd len)) : ab_V M d mc ms tt Q kc ks pc ls (.int n :: st) σ := by
  intro p l e s m args below meth c H locs lsA G A hI hL hP hD hS ht
  obtain ⟨t1, t2⟩ := ht htt
  have ha : ab_a G σ.1 = H.size := by rw [ab_a, if_neg (Nat.ne_of_lt hn)]; exact t2.symm
  rcases hty with ⟨rfl, rfl⟩ | ⟨rfl, rfl⟩
  · refine va_newaK (atype := .int) hI.1 hI.2.1 (hI.2.2.2.2.2.1 _ ac_int) rfl hd rfl hn0 hN (by show len * 4 ≤ _; omega) hm.1 hm.2 rfl fun H1 cA e1 z1 o1 hAr hNm => ?_
    have hcA : cA = G.2.2.1 100 := by
      have h1 : s.vm.findClass ("[" ++ FieldType.int.toString) = some (G.2.2.1 100) := (hI.2.2.2.2.2.2.2.2.2.1.1.2 0 _ rfl).2
      exact Option.some.inj (hNm.symm.trans h1)
    have hat : va_at G.2.2.2 vwCl (H.size, ab_cell G (ab_nw σ 100 len) σ.1) H1 := by
      have ec : ab_cell G (ab_nw σ 100 len) σ.1 = .inl (G.2.2.1 100, ab_arr G (ab_nw σ 100 len) σ.1) := by simp [ab_cell, ab_nw]
      rw [ec]
      show H1[H.size]? = some (vp_cell _ _)
      rw [ab_arr_new (by decide) (by decide), ← hcA]
      exact e1
    obtain ⟨hP1, hD1, hS1⟩ := ab_grow hP hD hS hI.2.2.2.2.2.2.2.2.1 t2 hn z1 o1 hat
    have k1 := k p l e s m args below meth c H1 locs lsA G A hI hL hP1 hD1 hS1 (fun _ => ⟨by omega, by have h3 : (ab_nw σ 100 len).1 = σ.1 + 1 := rfl; omega⟩)
    rw [List.map_cons, show ab_c G (.ref σ.1) = .ref H.size from congrArg Value.ref ha] at k1
    exact k1
  · refine va_newaK (atype := .boolean) hI.1 hI.2.1 (hI.2.2.2.2.2.1 _ ac_boolean) rfl hd rfl hn0 hN (by show len * 1 ≤ _; omega) hm.1 hm.2 rfl fun H1 cA e1 z1 o1 hAr hNm => ?_
    have hcA : cA = G.2.2.1 101 := by
      have h1 : s.vm.findClass ("[" ++ FieldType.boolean.toString) = some (G.2.2.1 101) := (hI.2.2.2.2.2.2.2.2.2.1.1.2 1 _ rfl).2
      exact Option.some.inj (hNm.symm.trans h1)
    have hat : va_at G.2.2.2 vwCl (H.size, ab_cell G (ab_nw σ 101 len) σ.1) H1 := by
      have ec : ab_cell G (ab_nw σ 101 len) σ.1 = .inl (G.2.2.1 101, ab_arr G (ab_nw σ 101 len) σ.1) := by simp [ab_cell, ab_nw]
      rw [ec]
      show H1[H.size]? = some (vp_cell _ _)
      rw [ab_arr_new (by decide) (by decide), ← hcA]
      exact e1
    obtain ⟨hP1, hD1, hS1⟩ := ab_grow hP hD hS hI.2.2.2.2.2.2.2.2.1 t2 hn z1 o1 hat
    have k1 := k p l e s m args below meth c H1 locs lsA G A hI hL hP1 hD1 hS1 (fun _ => ⟨by omega, by have h3 : (ab_nw σ 101 len).1 = σ.1 + 1 := rfl; omega⟩)
    rw [List.map_cons, show ab_c G (.ref σ.1) = .ref H.size from congrArg Value.ref ha] at k1
    exact k1
theorem ab_newq {idx kd : Nat} {C : String} {n : Int32} {len : Nat} (hd : decode M.2.1 pc = .ok (.anewarray idx, 3)) (htt : tt) (hn : σ.1 < 1000000) (hl : Cond.classLink M.1.cls idx C ∈ gw) (hty : (C = RX6 ∧ kd = 102) ∨ (C = RX0 ∧ kd = 103)) (hn0 : ¬ n < 0) (hN : n.toNatClampNeg = len) (hb : len ≤ 5000) (hm : kc + 1 ≤ mc ∧ ks + len ≤ ms)
    (k : ab_V M d mc ms tt Q (kc + 1) (ks + len) (pc + 3) ls (.ref σ.1 :: st) (ab_nw σ kd len)) : ab_V M d mc ms tt Q kc ks pc ls (.int n :: st) σ := by
  intro p l e s m args below meth c H locs lsA G A hI hL hP hD hS ht
  obtain ⟨t1, t2⟩ := ht htt
  subst hN
  have ha : ab_a G σ.1 = H.size := by rw [ab_a, if_neg (Nat.ne_of_lt hn)]; exact t2.symm
  have hov : va_AO C s := by rcases hty with ⟨rfl, rfl⟩ | ⟨rfl, rfl⟩; exact hI.2.2.2.2.2.2.2.2.2.1.2.1; exact hI.2.2.2.2.2.2.2.2.2.1.2.2.1
  have hkd : 102 ≤ kd := by rcases hty with ⟨rfl, rfl⟩ | ⟨rfl, rfl⟩ <;> decide
  refine W.anew hI.1 hI.2.1 hI.2.2.2.2.1 (hI.2.2.2.2.2.1 _ hl) (va_AO.use hov) rfl hd rfl hn0 (by omega) hm.1 hm.2 fun cA kA comp f1 f2 f3 f4 => ?_
  have hcA : cA = G.2.2.1 kd := by
    rcases hty with ⟨rfl, rfl⟩ | ⟨rfl, rfl⟩
    · obtain ⟨_, _, -, -, -, h1⟩ := (hI.2.2.2.2.2.2.2.2.2.1.1.2 2 _ rfl).2
      exact Option.some.inj (f1.symm.trans h1)
    · obtain ⟨_, _, -, -, -, h1⟩ := (hI.2.2.2.2.2.2.2.2.2.1.1.2 3 _ rfl).2
      exact Option.some.inj (f1.symm.trans h1)
  generalize hH1 : H.push ({ cls := cA, slots := Array.replicate n.toNatClampNeg .null, vm := .none } : Cell) = H1
  have z1 : H1.size = H.size + 1 := by rw [← hH1, Array.size_push]
  have e1 : H1[H.size]? = some (arrV cA n.toNatClampNeg (fun _ => .null)) := by rw [← hH1, Array.getElem?_push_size, ← arrV_new]
  have o1 : ∀ q : Nat, q < H.size → H1[q]? = H[q]? := fun q hq => by rw [← hH1, Array.getElem?_push, if_neg (Nat.ne_of_lt hq)]
  have hat : va_at G.2.2.2 vwCl (H.size, ab_cell G (ab_nw σ kd n.toNatClampNeg) σ.1) H1 := by
    have ec : ab_cell G (ab_nw σ kd n.toNatClampNeg) σ.1 = .inl (G.2.2.1 kd, n.toNatClampNeg, .inr (.inr (.inr (.inr (fun _ => none))))) := by
      have h1 : ¬ kd < 100 := by omega
      have h2 : ¬ kd < 102 := by omega
      simp [ab_cell, ab_arr, ab_nw, h1, h2]
    rw [ec]
    show H1[H.size]? = some (vp_cell _ _)
    rw [vp_cell_q, ← hcA]
    exact e1
  obtain ⟨hP1, hD1, hS1⟩ := ab_grow hP hD hS hI.2.2.2.2.2.2.2.2.1 t2 hn z1 o1 hat
  have k1 := k p l e s m args below meth c H1 locs lsA G A hI hL hP1 hD1 hS1 (fun _ => ⟨by omega, by have h3 : (ab_nw σ kd n.toNatClampNeg).1 = σ.1 + 1 := rfl; omega⟩)
  rw [List.map_cons, show ab_c G (.ref σ.1) = .ref H.size from congrArg Value.ref ha] at k1
  exact k1
/-- behind a call -/
theorem ab_call {mc' ms' : Nat} {Q' : Option Value → ab_S → Prop} {A1 : Nat → Prop} {a : Array Value} {st0 rest : List Value} (hr : va_Run p l e R s m args below meth c H locs kc ks mc' ms' (F0 m pc lsA st0) rest (ab_Q G tt mc' Q' A1 a) A1) (hS : va_S A s.heap H locs) (hA : ∀ q, A1 q → A q)
    (kk : ∀ (r : Option Value) (σ' : ab_S) (H1 : Heap) (locs1 : List Loc), Q' r σ' → va_P G.2.2.2 vwCl (ab_ws G σ') H1 → va_D A (ab_ws G σ') → va_S A s.heap H1 locs1 → (tt → H1.size = H.size + mc' ∧ H1.size = G.1 + σ'.1) → W p l e R s m args below meth c H1 locs1 (kc + mc') (ks + ms') Qx (F0 m (pc + 3) lsA ((r.map (ab_c G)).toList ++ rest))) : W p l e R s m args below meth c H locs kc ks Qx (F0 m pc lsA st0) := by
  intro T hT X
  obtain ⟨v, st₀, t, T', L, h0, X', hL, e1, e2, ⟨⟨r, σ', hv, hq, hp1, hd1, htt⟩, hz, hk⟩, stp⟩ := hr T hT X
  cases hv
  rw [h0] at hz hk htt
  obtain ⟨t2, a1, b1⟩ := kk r σ' T'.heap (locs ++ L) hq (by rw [e1]; exact hp1) (hd1.weaken (fun _ q _ h => hA q.1 h))
    ⟨Nat.le_trans hS.1 (by rw [e1]; exact hz), fun q h1 h2 => by rw [e1, hk q (Nat.lt_of_lt_of_le h1 hS.1) (fun z => h2 (hA q z))]; exact hS.2.1 q h1 h2, fun q hq => by
      rcases List.mem_append.mp hq with h | h
      · exact hS.2.2 q h
      · exact hA _ (hL q h)⟩ (fun h => by rw [e1]; exact htt h) T' rfl X'
  exact ⟨t2, stp t2 a1, b1⟩
def ab_F (N : ab_M) (np : Nat) : Prop := Cond.code N.1 N.2.1 N.2.2.1 N.2.2.2 ∈ gw ∧ Cond.initialized N.1.cls ∈ gw ∧ (N.1.cls ≠ "java/lang/invoke/MethodHandle" ∧ N.1.cls ≠ "java/lang/invoke/VarHandle" ∧ (parseMethodDescriptor N.1.desc).map (fun d => d.parameters.length) = some np) ∧ N.2.2.1 ≤ 17
def ab_FV (N : ab_M) (np ci : Nat) : Prop := ab_F N np ∧ Cond.instanceMethod N.1 ∈ gw ∧ Cond.selects N.1.cls N.1 N.1 ∈ gw ∧ ∃ (T : u_T) (k : Nat), vwCl[ci]? = some (N.1.cls, T, k)
def ab_FS (N : ab_M) (np : Nat) : Prop := ab_F N np ∧ Cond.static N.1 ∈ gw
def ab_FI (N : ab_M) (np : Nat) : Prop := ab_F N np ∧ N.1.name = "<init>" ∧ Cond.instanceMethod N.1 ∈ gw ∧ N.2.2.2 = none
theorem ab_gw_good : GoodIn gw gw := fun w hw => ⟨hw, good_of_word (List.mem_filter.mp hw).2⟩
theorem ab_gw_code {N : ab_M} {np : Nat} (h : ab_F N np) : GoodIn gw (Cond.code N.1 N.2.1 N.2.2.1 N.2.2.2 :: gw) := fun w hw => by
  rcases List.mem_cons.mp hw with rfl | hw
  · exact ab_gw_good _ h.1
  · exact ab_gw_good w hw
theorem ab_free {σ : ab_S} (hD : va_D A (ab_ws G σ)) (hS : va_S A s.heap H locs) (hA : ∀ q, s.heap.size ≤ q → A q) : ∀ q, va_A (ab_ws G σ) H.size q → A q := by
  intro q h
  rcases h with ⟨k, e, h⟩ | h
  · exact hD.2 k (q, e) h
  · exact hA q (Nat.le_trans hS.1 h)
def ab_Pc (G : ab_G) (tt : Prop) (av : List Value) (σ : ab_S) (sz : Nat) : Array Value → State → Prop := va_Pc (av.map (ab_c G)) (fun U => U.heap.size = sz ∧ va_P G.2.2.2 vwCl (ab_ws G σ) U.heap ∧ va_D (fun _ => True) (ab_ws G σ) ∧ ab_K G U ∧ ab_Z G (va_A (ab_ws G σ) sz) U U.heap ∧ (tt → sz = G.1 + σ.1))
theorem ab_blind {av : List Value} {σ : ab_S} {sz : Nat} : FrameBlind (ab_Pc G tt av σ sz) := by
  intro a U g mk q
  obtain ⟨q0, q1, qP, qD, qK, qZ, qt⟩ := q
  exact ⟨q0, q1, qP, qD, ab_K.same (s := U) (U := U.calling g mk a) rfl qK, ab_Z.moved (U := U.calling g mk a) (Vm.Alike.refl U.vm) qZ, qt⟩
theorem ab_pre {av : List Value} (hK : ab_K G s) (hZ : ab_Z G A s s.heap) (hP : va_P G.2.2.2 vwCl (ab_ws G σ) H) (hD : va_D A (ab_ws G σ)) (hS : va_S A s.heap H locs) (hA : ∀ q, s.heap.size ≤ q → A q) (ht : tt → H.size = G.1 + σ.1) : ∀ U : State, U.heap = H → s.WarmedH U.vm → ab_Pc G tt av σ H.size (av.map (ab_c G)).toArray U := by
  intro U hU hW
  refine ⟨rfl, by rw [hU], by rw [hU]; exact hP, hD.weaken (fun _ _ _ _ => trivial), ab_K.warm hW hK, ?_, ht⟩
  rw [hU]
  exact ((hZ.kept hS.2.1).narrow (ab_free hD hS hA)).moved hW.alike
theorem ab_rv (G : ab_G) (r : Option Value) (st : List Value) : (r.map (ab_c G)).toList ++ st.map (ab_c G) = (r.toList ++ st).map (ab_c G) := by
  cases r <;> rfl
theorem ab_sum (G : ab_G) (st : List Value) : ((st.map (ab_c G)).map fun v => v.category).sum = (st.map fun v => v.category).sum := by
  congr 1
  rw [List.map_map]
  apply List.map_congr_left
  intro v _
  exact ab_c_cat G v
end ABN
section ABC
variable {M : ab_M} {d mc ms : Nat} {tt : Prop} {Q : Option Value → ab_S → Prop} {kc ks pc : Nat} {ls : List (Option Value)} {st : List Value} {σ : ab_S}
variable {N : ab_M} {av : List Value} {d' mc' ms' idx : Nat} {Q' : Option Value → ab_S → Prop}
theorem ab_invV {q ci : Nat} (hd : decode M.2.1 pc = .ok (.invokevirtual idx, 3)) (hl : Cond.methodLink M.1.cls idx N.1 ∈ gw) (hF : ab_FV N av.length ci) (hk : ab_is σ q ci) (hst : (st.map fun v => v.category).sum ≤ 8) (hdd : d' + 1 ≤ d) (hmc : kc + mc' ≤ mc ∧ ks + ms' ≤ ms) (hM : ab_Met N d' mc' ms' tt (.ref q :: av) σ Q') (k : ∀ (r : Option Value) (σ' : ab_S), Q' r σ' → ab_V M d mc ms tt Q (kc + mc') (ks + ms') (pc + 3) ls (r.toList ++ st) σ') : ab_V M d mc ms tt Q kc ks (pc) ls (av.reverse ++ .ref q :: st) σ := by
  intro p l e s m args below meth c H locs lsA G A hI hL hP hD hS ht
  have hts := hI.2.2.2.2.2.1
  have hfr := ab_free hD hS hI.2.2.2.2.2.2.2.2.1
  have hR : (ab_rm d' mc' ms').frames + 1 ≤ (ab_rm d mc ms).frames ∧ 8 + (N.2.2.1 + 11) + (ab_rm d' mc' ms').locals ≤ (ab_rm d mc ms).locals := by
    have h1 := hF.1.2.2.2
    refine ⟨hdd, ?_⟩
    show 8 + (N.2.2.1 + 11) + (36 * d' + 20) ≤ 36 * d + 20
    omega
  have hMm := hM l G H.size
  obtain ⟨T, kN, hci⟩ := hF.2.2.2
  have hrun := va_runV (As := av.map (ab_c G)) (rest := st.map (ab_c G)) (b := ab_a G q) (C := N.1.cls) (locs := locs) (below := below) (e := e) (meth := meth) (cells := kc) (slots := ks) (g := F0 m pc lsA ((av.reverse ++ .ref q :: st).map (ab_c G))) ⟨hI.1, hI.2.1, hI.2.2.2.1, hI.2.2.2.2.1, hts⟩ hMm ⟨callB_of av.length hts (ab_gw_code hF.1) rfl rfl rfl (hts _ hF.1.2.1) (hts _ hl) hF.1.2.2.1 hR, hts _ hF.2.1, hts _ hF.2.2.1⟩ ⟨ab_blind, va_recv hI.2.2.2.2.2.2.2.2.2.1.1 hP hci (ab_ws_obj hk (ab_lt_of hci)), ab_pre (av := .ref q :: av) hI.2.2.2.2.2.2.2.2.2.1 hI.2.2.2.2.2.2.2.2.2.2 hP hD hS hI.2.2.2.2.2.2.2.2.1 (fun h => (ht h).2)⟩ rfl (by simp) hL.1 (by simp [ab_c]) (lv_room (by rw [ab_sum]; exact hst)) hd hmc
  refine ab_call (st0 := (av.reverse ++ .ref q :: st).map (ab_c G)) (rest := st.map (ab_c G)) hrun hS hfr (fun r σ' H1 locs1 hq hP1 hD1 hS1 ht1 => ?_)
  have k1 := k r σ' hq p l e s m args below meth c H1 locs1 lsA G A hI hL hP1 hD1 hS1 (fun h => by have h1 := ht h; have h2 := ht1 h; omega)
  rw [ab_rv]
  exact k1
theorem ab_invS  (hd : decode M.2.1 pc = .ok (.invokestatic idx, 3)) (hl : Cond.methodLink M.1.cls idx N.1 ∈ gw) (hF : ab_FS N av.length) (hst : (st.map fun v => v.category).sum ≤ 8) (hdd : d' + 1 ≤ d) (hmc : kc + mc' ≤ mc ∧ ks + ms' ≤ ms) (hM : ab_Met N d' mc' ms' tt av σ Q') (k : ∀ (r : Option Value) (σ' : ab_S), Q' r σ' → ab_V M d mc ms tt Q (kc + mc') (ks + ms') (pc + 3) ls (r.toList ++ st) σ') : ab_V M d mc ms tt Q kc ks (pc) ls (av.reverse ++ st) σ := by
  intro p l e s m args below meth c H locs lsA G A hI hL hP hD hS ht
  have hts := hI.2.2.2.2.2.1
  have hfr := ab_free hD hS hI.2.2.2.2.2.2.2.2.1
  have hR : (ab_rm d' mc' ms').frames + 1 ≤ (ab_rm d mc ms).frames ∧ 8 + (N.2.2.1 + 11) + (ab_rm d' mc' ms').locals ≤ (ab_rm d mc ms).locals := by
    have h1 := hF.1.2.2.2
    refine ⟨hdd, ?_⟩
    show 8 + (N.2.2.1 + 11) + (36 * d' + 20) ≤ 36 * d + 20
    omega
  have hMm := hM l G H.size
  have hrun := va_runS (As := av.map (ab_c G)) (rest := st.map (ab_c G)) (locs := locs) (below := below) (e := e) (meth := meth) (cells := kc) (slots := ks) (g := F0 m pc lsA ((av.reverse ++ st).map (ab_c G))) ⟨hI.1, hI.2.1, hI.2.2.2.1, hI.2.2.2.2.1, hts⟩ hMm ⟨callB_of av.length hts (ab_gw_code hF.1) rfl rfl rfl (hts _ hF.1.2.1) (hts _ hl) hF.1.2.2.1 hR, hts _ hF.2⟩ ⟨ab_blind, ab_pre (av := av) hI.2.2.2.2.2.2.2.2.2.1 hI.2.2.2.2.2.2.2.2.2.2 hP hD hS hI.2.2.2.2.2.2.2.2.1 (fun h => (ht h).2)⟩ rfl (by simp) hL.1 (by simp) (lv_room (by rw [ab_sum]; exact hst)) hd hmc
  refine ab_call (st0 := (av.reverse ++ st).map (ab_c G)) (rest := st.map (ab_c G)) hrun hS hfr (fun r σ' H1 locs1 hq hP1 hD1 hS1 ht1 => ?_)
  have k1 := k r σ' hq p l e s m args below meth c H1 locs1 lsA G A hI hL hP1 hD1 hS1 (fun h => by have h1 := ht h; have h2 := ht1 h; omega)
  rw [ab_rv]
  exact k1
theorem ab_invI {q : Nat} (hd : decode M.2.1 pc = .ok (.invokespecial idx, 3)) (hl : Cond.methodLink M.1.cls idx N.1 ∈ gw) (hF : ab_FI N av.length) (hst : (st.map fun v => v.category).sum ≤ 8) (hdd : d' + 1 ≤ d) (hmc : kc + mc' ≤ mc ∧ ks + ms' ≤ ms) (hM : ab_Met N d' mc' ms' tt (.ref q :: av) σ Q') (k : ∀ (r : Option Value) (σ' : ab_S), Q' r σ' → ab_V M d mc ms tt Q (kc + mc') (ks + ms') (pc + 3) ls (r.toList ++ st) σ') : ab_V M d mc ms tt Q kc ks (pc) ls (av.reverse ++ .ref q :: st) σ := by
  intro p l e s m args below meth c H locs lsA G A hI hL hP hD hS ht
  have hts := hI.2.2.2.2.2.1
  have hfr := ab_free hD hS hI.2.2.2.2.2.2.2.2.1
  have hR : (ab_rm d' mc' ms').frames + 1 ≤ (ab_rm d mc ms).frames ∧ 8 + (N.2.2.1 + 11) + (ab_rm d' mc' ms').locals ≤ (ab_rm d mc ms).locals := by
    have h1 := hF.1.2.2.2
    refine ⟨hdd, ?_⟩
    show 8 + (N.2.2.1 + 11) + (36 * d' + 20) ≤ 36 * d + 20
    omega
  have hMm := hM l G H.size
  have hcb := callB_of av.length hts (ab_gw_code hF.1) rfl rfl rfl (hts _ hF.1.2.1) (hts _ hl) hF.1.2.2.1 hR
  rw [hF.2.2.2] at hcb hMm
  have hrun := va_runI (n := av.length) (As := av.map (ab_c G)) (rest := st.map (ab_c G)) (b := ab_a G q) (locs := locs) (below := below) (e := e) (meth := meth) (cells := kc) (slots := ks) (g := F0 m pc lsA ((av.reverse ++ .ref q :: st).map (ab_c G))) ⟨hI.1, hI.2.1, hI.2.2.2.1, hI.2.2.2.2.1, hts⟩ hMm ⟨hcb, hF.2.1, hts _ hF.2.2.1⟩ ⟨ab_blind, ab_pre (av := .ref q :: av) hI.2.2.2.2.2.2.2.2.2.1 hI.2.2.2.2.2.2.2.2.2.2 hP hD hS hI.2.2.2.2.2.2.2.2.1 (fun h => (ht h).2)⟩ rfl (by simp) hL.1 (by simp [ab_c]) (lv_room (by rw [ab_sum]; exact hst)) hd hmc
  refine ab_call (st0 := (av.reverse ++ .ref q :: st).map (ab_c G)) (rest := st.map (ab_c G)) hrun hS hfr (fun r σ' H1 locs1 hq hP1 hD1 hS1 ht1 => ?_)
  have k1 := k r σ' hq p l e s m args below meth c H1 locs1 lsA G A hI hL hP1 hD1 hS1 (fun h => by have h1 := ht h; have h2 := ht1 h; omega)
  rw [ab_rv]
  exact k1
theorem ab_invSN {host : String} (hd : decode M.2.1 pc = .ok (.invokestatic idx, 3)) (hl : Cond.methodLinkNest M.1.cls idx N.1 host ∈ ab_nest) (hF : ab_FS N av.length) (hst : (st.map fun v => v.category).sum ≤ 8) (hdd : d' + 1 ≤ d) (hmc : kc + mc' ≤ mc ∧ ks + ms' ≤ ms) (hM : ab_Met N d' mc' ms' tt av σ Q') (k : ∀ (r : Option Value) (σ' : ab_S), Q' r σ' → ab_V M d mc ms tt Q (kc + mc') (ks + ms') (pc + 3) ls (r.toList ++ st) σ') : ab_V M d mc ms tt Q kc ks (pc) ls (av.reverse ++ st) σ := by
  intro p l e s m args below meth c H locs lsA G A hI hL hP hD hS ht
  have hts := hI.2.2.2.2.2.1
  have hfr := ab_free hD hS hI.2.2.2.2.2.2.2.2.1
  have hR : (ab_rm d' mc' ms').frames + 1 ≤ (ab_rm d mc ms).frames ∧ 8 + (N.2.2.1 + 11) + (ab_rm d' mc' ms').locals ≤ (ab_rm d mc ms).locals := by
    have h1 := hF.1.2.2.2
    refine ⟨hdd, ?_⟩
    show 8 + (N.2.2.1 + 11) + (36 * d' + 20) ≤ 36 * d + 20
    omega
  have hMm := hM l G H.size
  have hrun := va_runSN (As := av.map (ab_c G)) (rest := st.map (ab_c G)) (locs := locs) (below := below) (e := e) (meth := meth) (cells := kc) (slots := ks) (g := F0 m pc lsA ((av.reverse ++ st).map (ab_c G))) ⟨hI.1, hI.2.1, hI.2.2.2.1, hI.2.2.2.2.1, hts⟩ hMm ⟨va_cnB av.length hts (ab_gw_code hF.1) rfl rfl rfl (hI.2.2.2.2.2.2.2.2.2.1.2.2.2.1 _ hl) (hts _ hF.1.2.1) hF.1.2.2.1 hR, hts _ hF.2, trivial⟩ ⟨ab_blind, ab_pre (av := av) hI.2.2.2.2.2.2.2.2.2.1 hI.2.2.2.2.2.2.2.2.2.2 hP hD hS hI.2.2.2.2.2.2.2.2.1 (fun h => (ht h).2)⟩ rfl (by simp) hL.1 (by simp) (lv_room (by rw [ab_sum]; exact hst)) hd hmc
  refine ab_call (st0 := (av.reverse ++ st).map (ab_c G)) (rest := st.map (ab_c G)) hrun hS hfr (fun r σ' H1 locs1 hq hP1 hD1 hS1 ht1 => ?_)
  have k1 := k r σ' hq p l e s m args below meth c H1 locs1 lsA G A hI hL hP1 hD1 hS1 (fun h => by have h1 := ht h; have h2 := ht1 h; omega)
  rw [ab_rv]
  exact k1
theorem ab_invIN {q : Nat} {host : String} (hd : decode M.2.1 pc = .ok (.invokespecial idx, 3)) (hl : Cond.methodLinkNest M.1.cls idx N.1 host ∈ ab_nest) (hF : ab_FI N av.length) (hst : (st.map fun v => v.category).sum ≤ 8) (hdd : d' + 1 ≤ d) (hmc : kc + mc' ≤ mc ∧ ks + ms' ≤ ms) (hM : ab_Met N d' mc' ms' tt (.ref q :: av) σ Q') (k : ∀ (r : Option Value) (σ' : ab_S), Q' r σ' → ab_V M d mc ms tt Q (kc + mc') (ks + ms') (pc + 3) ls (r.toList ++ st) σ') : ab_V M d mc ms tt Q kc ks (pc) ls (av.reverse ++ .ref q :: st) σ := by
  intro p l e s m args below meth c H locs lsA G A hI hL hP hD hS ht
  have hts := hI.2.2.2.2.2.1
  have hfr := ab_free hD hS hI.2.2.2.2.2.2.2.2.1
  have hR : (ab_rm d' mc' ms').frames + 1 ≤ (ab_rm d mc ms).frames ∧ 8 + (N.2.2.1 + 11) + (ab_rm d' mc' ms').locals ≤ (ab_rm d mc ms).locals := by
    have h1 := hF.1.2.2.2
    refine ⟨hdd, ?_⟩
    show 8 + (N.2.2.1 + 11) + (36 * d' + 20) ≤ 36 * d + 20
    omega
  have hMm := hM l G H.size
  have hcb := va_cnB av.length hts (ab_gw_code hF.1) rfl rfl rfl (hI.2.2.2.2.2.2.2.2.2.1.2.2.2.1 _ hl) (hts _ hF.1.2.1) hF.1.2.2.1 hR
  rw [hF.2.2.2] at hcb hMm
  have hrun := va_runIN (n := av.length) (As := av.map (ab_c G)) (rest := st.map (ab_c G)) (b := ab_a G q) (locs := locs) (below := below) (e := e) (meth := meth) (cells := kc) (slots := ks) (g := F0 m pc lsA ((av.reverse ++ .ref q :: st).map (ab_c G))) ⟨hI.1, hI.2.1, hI.2.2.2.1, hI.2.2.2.2.1, hts⟩ hMm ⟨hcb, hF.2.1, hts _ hF.2.2.1⟩ ⟨ab_blind, ab_pre (av := .ref q :: av) hI.2.2.2.2.2.2.2.2.2.1 hI.2.2.2.2.2.2.2.2.2.2 hP hD hS hI.2.2.2.2.2.2.2.2.1 (fun h => (ht h).2)⟩ rfl (by simp) hL.1 (by simp [ab_c]) (lv_room (by rw [ab_sum]; exact hst)) hd hmc
  refine ab_call (st0 := (av.reverse ++ .ref q :: st).map (ab_c G)) (rest := st.map (ab_c G)) hrun hS hfr (fun r σ' H1 locs1 hq hP1 hD1 hS1 ht1 => ?_)
  have k1 := k r σ' hq p l e s m args below meth c H1 locs1 lsA G A hI hL hP1 hD1 hS1 (fun h => by have h1 := ht h; have h2 := ht1 h; omega)
  rw [ab_rv]
  exact k1
theorem ab_obj {q : Nat} (hd : decode M.2.1 pc = .ok (.invokespecial idx, 3)) (hl : Cond.methodLink M.1.cls idx objectInit ∈ gw) (hst : (st.map fun v => v.category).sum ≤ 8) (hdd : 1 ≤ d) (k : ab_V M d mc ms tt Q kc ks (pc + 3) ls st σ) : ab_V M d mc ms tt Q kc ks pc ls (.ref q :: st) σ := by
  intro p l e s m args below meth c H locs lsA G A hI hL hP hD hS ht
  have hts := hI.2.2.2.2.2.1
  refine W.objInit (a := ab_a G q) (rest := st.map (ab_c G)) hI.1 hI.2.1 hI.2.2.2.2.1 (hts _ hl) (hts _ im_obj) (hts _ cd_obj) rfl (hL.1.trans hI.2.2.2.1.symm) rfl hd hdd ?_ (k p l e s m args below meth c H locs lsA G A hI hL hP hD hS ht)
  have h1 : 2 * (F0 m pc lsA ((Value.ref q :: st).map (ab_c G))).monitorRoom + ((st.map (ab_c G)).map fun v => v.category).sum ≤ 8 := lv_room (by rw [ab_sum]; exact hst)
  show _ ≤ 36 * d + 20
  omega
theorem ab_ireturn {v : Int32} {ty : FieldType} (hd : decode M.2.1 pc = .ok (.ireturn, 1)) (hr : M.2.2.2 = some ty) (hn : narrow ty (.int v) = .int v) (hk : kc ≤ mc ∧ ks ≤ ms) (htk : tt → kc = mc) (hq : Q (some (.int v)) σ) : ab_V M d mc ms tt Q kc ks pc ls [.int v] σ := by
  intro p l e s m args below meth c H locs lsA G A hI hL hP hD hS ht
  have hlocks := hI.2.2.2.2.2.2.1
  refine W.widen hk.1 hk.2 ?_
  exact W.zret hI.1 hI.2.1 (hI.2.2.1.trans hr) hn (fun t h1 _ => ⟨⟨some (.int v), σ, rfl, hq, by rw [h1]; exact hP, hD, fun h => by have h2 := ht h; have h3 := htk h; rw [h1]; omega⟩, hS.F h1⟩) hS.2.2 hd hlocks
theorem ab_return (hd : decode M.2.1 pc = .ok (.return_, 1)) (hr : M.2.2.2 = none) (hk : kc ≤ mc ∧ ks ≤ ms) (htk : tt → kc = mc) (hq : Q none σ) : ab_V M d mc ms tt Q kc ks pc ls [] σ := by
  intro p l e s m args below meth c H locs lsA G A hI hL hP hD hS ht
  have hlocks := hI.2.2.2.2.2.2.1
  refine W.widen hk.1 hk.2 ?_
  exact W.vret hI.1 hI.2.1 (hI.2.2.1.trans hr) (fun t h1 _ => ⟨⟨none, σ, rfl, hq, by rw [h1]; exact hP, hD, fun h => by have h2 := ht h; have h3 := htk h; rw [h1]; omega⟩, hS.F h1⟩) hS.2.2 hd hlocks
theorem ab_areturn {v : Value} {C : String} (hd : decode M.2.1 pc = .ok (.areturn, 1)) (hr : M.2.2.2 = some (.object C)) (hv : v = .null ∨ ∃ x, v = .ref x) (hk : kc ≤ mc ∧ ks ≤ ms) (htk : tt → kc = mc) (hq : Q (some v) σ) : ab_V M d mc ms tt Q kc ks pc ls [v] σ := by
  intro p l e s m args below meth c H locs lsA G A hI hL hP hD hS ht
  have hlocks := hI.2.2.2.2.2.2.1
  refine W.widen hk.1 hk.2 ?_
  exact W.aret (v := ab_c G v) hI.1 hI.2.1 (hI.2.2.1.trans hr) (Or.inl ⟨C, rfl⟩) (by rcases hv with rfl | ⟨x, rfl⟩; exact Or.inl rfl; exact Or.inr ⟨_, rfl⟩) (fun t h1 _ => ⟨⟨some v, σ, rfl, hq, by rw [h1]; exact hP, hD, fun h => by have h2 := ht h; have h3 := htk h; rw [h1]; omega⟩, hS.F h1⟩) hS.2.2 hd hlocks
end ABC
end
section
/-! SWITCHES; WHAT IS STATIC OF EACH METHOD -/
def ab_lchk (pc : Nat) (dflt : Int) : List (Int × Int) → List (Int32 × Nat) → Nat → Bool
  | [], [], dt => (pc : Int) + dflt == (dt : Int)
  | (a, o) :: r, (v, t) :: cs, dt => v.toInt == a && ((pc : Int) + o == (t : Int) && ab_lchk pc dflt r cs dt)
  | _, _, _ => false
theorem ab_lchk_ok {pc : Nat} {dflt : Int} {x : Int32} {dt : Nat} : ∀ (ps : List (Int × Int)) (cs : List (Int32 × Nat)), ab_lchk pc dflt ps cs dt = true → ∃ (off : Int) (tgt : Nat), Op.lookupswitch.offset ps dflt x.toInt = off ∧ (pc : Int) + off = (tgt : Int) ∧ ((∃ c ∈ cs, x = c.1 ∧ tgt = c.2) ∨ ((∀ c ∈ cs, ¬ x = c.1) ∧ tgt = dt))
  | [], [], h => by
    simp only [ab_lchk, beq_iff_eq] at h
    exact ⟨dflt, dt, by simp [Op.lookupswitch.offset], h, Or.inr ⟨fun c hc => absurd hc List.not_mem_nil, rfl⟩⟩
  | (a, o) :: r, (v, t) :: cs, h => by
    simp only [ab_lchk, Bool.and_eq_true, beq_iff_eq] at h
    obtain ⟨h1, h2, h3⟩ := h
    by_cases hx : x = v
    · refine ⟨o, t, ?_, h2, Or.inl ⟨(v, t), List.mem_cons_self, hx, rfl⟩⟩
      rw [Op.lookupswitch.offset_cons, if_pos]
      rw [hx, h1]
    · obtain ⟨off, tgt, e1, e2, e3⟩ := ab_lchk_ok r cs h3
      refine ⟨off, tgt, (lv_osw hx h1).trans e1, e2, ?_⟩
      rcases e3 with ⟨c, hc, e4⟩ | ⟨e4, e5⟩
      · exact Or.inl ⟨c, List.mem_cons_of_mem _ hc, e4⟩
      · exact Or.inr ⟨fun c hc => by
          rcases List.mem_cons.mp hc with rfl | hc
          · exact hx
          · exact e4 c hc, e5⟩
  | [], _ :: _, h => by simp [ab_lchk] at h
  | _ :: _, [], h => by simp [ab_lchk] at h
def ab_tchk (pc : Nat) (dflt lo hi : Int) (offs : Array Int) (cs : List (Int32 × Nat)) (dt : Nat) : Bool :=
  ((pc : Int) + dflt == (dt : Int)) && (cs.all (fun c => decide (lo ≤ c.1.toInt) && decide (c.1.toInt ≤ hi)) && (List.range (hi - lo + 1).toNat).all (fun i => match offs[i]? with
    | some off => decide (0 ≤ (pc : Int) + off) && (cs.any (fun c => c.1.toInt == lo + i && (c.2 : Int) == (pc : Int) + off) || (((pc : Int) + off == (dt : Int)) && cs.all (fun c => !(c.1.toInt == lo + i))))
    | none => false))
theorem ab_c0 {P : Int32 × Nat → Prop} : ∀ c ∈ ([] : List (Int32 × Nat)), P c := fun _ h => absurd h List.not_mem_nil
theorem ab_c1 {P : Int32 × Nat → Prop} {a : Int32 × Nat} {cs : List (Int32 × Nat)} (h : P a) (hs : ∀ c ∈ cs, P c) : ∀ c ∈ a :: cs, P c := fun c hc => by
  rcases List.mem_cons.mp hc with rfl | hc
  · exact h
  · exact hs c hc
section ABSW
variable {M : ab_M} {d mc ms : Nat} {tt : Prop} {Q : Option Value → ab_S → Prop} {kc ks pc : Nat} {ls : List (Option Value)} {st : List Value} {σ : ab_S}
theorem ab_lsw {dflt : Int} {ps : Array (Int × Int)} {len : Nat} {x : Int32} (cs : List (Int32 × Nat)) (dt : Nat) (hd : decode M.2.1 pc = .ok (.lookupswitch dflt ps, len)) (hp : (ps.toList.zip (ps.toList.drop 1)).all (fun (a, next) => a.1 < next.1) = true) (hc : ab_lchk pc dflt ps.toList cs dt = true)
    (hin : ∀ c ∈ cs, x = c.1 → ab_V M d mc ms tt Q kc ks c.2 ls st σ) (hout : (∀ c ∈ cs, ¬ x = c.1) → ab_V M d mc ms tt Q kc ks dt ls st σ) : ab_V M d mc ms tt Q kc ks pc ls (.int x :: st) σ := by
  intro p l e s m args below meth c H locs lsA G A hI hL hP hD hS ht
  obtain ⟨off, tgt, e1, e2, e3⟩ := ab_lchk_ok (x := x) ps.toList cs hc
  refine lv_lookup (tgt := tgt) hI.1 hI.2.1 hd hp e1 e2 ?_
  rcases e3 with ⟨c0, h0, h1, rfl⟩ | ⟨h0, rfl⟩
  · exact hin c0 h0 h1 p l e s m args below meth c H locs lsA G A hI hL hP hD hS ht
  · exact hout h0 p l e s m args below meth c H locs lsA G A hI hL hP hD hS ht
theorem ab_tsw {dflt lo hi : Int} {offs : Array Int} {len : Nat} {x : Int32} (cs : List (Int32 × Nat)) (dt : Nat) (hd : decode M.2.1 pc = .ok (.tableswitch dflt lo hi offs, len)) (hc : ab_tchk pc dflt lo hi offs cs dt = true)
    (hin : ∀ c ∈ cs, x = c.1 → ab_V M d mc ms tt Q kc ks c.2 ls st σ) (hout : (∀ c ∈ cs, ¬ x = c.1) → ab_V M d mc ms tt Q kc ks dt ls st σ) : ab_V M d mc ms tt Q kc ks pc ls (.int x :: st) σ := by
  intro p l e s m args below meth c H locs lsA G A hI hL hP hD hS ht
  simp only [ab_tchk, Bool.and_eq_true, beq_iff_eq, List.all_eq_true, decide_eq_true_eq] at hc
  obtain ⟨h1, h2, h3⟩ := hc
  by_cases hr : x.toInt < lo ∨ hi < x.toInt
  · refine lv_tableOut (tgt := dt) hI.1 hI.2.1 hd hr h1 ?_
    exact hout (fun c0 hc0 hx => by have h4 := h2 c0 hc0; rw [← hx] at h4; omega) p l e s m args below meth c H locs lsA G A hI hL hP hD hS ht
  · have hr1 : ¬ x.toInt < lo := fun h => hr (Or.inl h)
    have hr2 : ¬ hi < x.toInt := fun h => hr (Or.inr h)
    have h5 := h3 (x.toInt - lo).toNat (List.mem_range.mpr (by omega))
    have hi2 : lo + ((x.toInt - lo).toNat : Int) = x.toInt := by omega
    cases ho : offs[(x.toInt - lo).toNat]? with
    | none => rw [ho] at h5; cases h5
    | some off =>
      rw [ho] at h5
      simp only [Bool.and_eq_true, Bool.or_eq_true, decide_eq_true_eq, List.any_eq_true, beq_iff_eq, List.all_eq_true, Bool.not_eq_true', beq_eq_false_iff_ne, ne_eq, hi2] at h5
      obtain ⟨h6, h7⟩ := h5
      rcases h7 with ⟨c0, h8, h9, h10⟩ | ⟨h8, h9⟩
      · refine lv_tableIn (tgt := c0.2) hI.1 hI.2.1 hd hr1 hr2 ho h10.symm ?_
        exact hin c0 h8 (Int32.toInt_inj.mp h9.symm) p l e s m args below meth c H locs lsA G A hI hL hP hD hS ht
      · refine lv_tableIn (tgt := dt) hI.1 hI.2.1 hd hr1 hr2 ho h8 ?_
        exact hout (fun c0 hc0 hx => h9 c0 hc0 (by rw [hx])) p l e s m args below meth c H locs lsA G A hI hL hP hD hS ht
end ABSW
theorem fi_X0_init : ab_FI mX0_init 0 := ⟨⟨cd_X0_init, in_X0, by decide +kernel, by decide⟩, rfl, im_X0_init, rfl⟩
theorem fv_X0_look : ab_FV mX0_look 1 0 := ⟨⟨cd_X0_look, in_X0, by decide +kernel, by decide⟩, im_X0_look, sl_X0_look, _, _, rfl⟩
theorem fv_X0_grow : ab_FV mX0_grow 0 0 := ⟨⟨cd_X0_grow, in_X0, by decide +kernel, by decide⟩, im_X0_grow, sl_X0_grow, _, _, rfl⟩
theorem fv_X0_take : ab_FV mX0_take 1 0 := ⟨⟨cd_X0_take, in_X0, by decide +kernel, by decide⟩, im_X0_take, sl_X0_take, _, _, rfl⟩
theorem fv_X0_firstFor : ab_FV mX0_firstFor 1 0 := ⟨⟨cd_X0_firstFor, in_X0, by decide +kernel, by decide⟩, im_X0_firstFor, sl_X0_firstFor, _, _, rfl⟩
theorem fv_X0_firstOf : ab_FV mX0_firstOf 1 0 := ⟨⟨cd_X0_firstOf, in_X0, by decide +kernel, by decide⟩, im_X0_firstOf, sl_X0_firstOf, _, _, rfl⟩
theorem fv_X0_dropFrom : ab_FV mX0_dropFrom 1 0 := ⟨⟨cd_X0_dropFrom, in_X0, by decide +kernel, by decide⟩, im_X0_dropFrom, sl_X0_dropFrom, _, _, rfl⟩
theorem fi_X1_init : ab_FI mX1_init 0 := ⟨⟨cd_X1_init, in_X1, by decide +kernel, by decide⟩, rfl, im_X1_init, rfl⟩
theorem fv_X1_draft : ab_FV mX1_draft 4 1 := ⟨⟨cd_X1_draft, in_X1, by decide +kernel, by decide⟩, im_X1_draft, sl_X1_draft, _, _, rfl⟩
theorem fv_X1_send : ab_FV mX1_send 5 1 := ⟨⟨cd_X1_send, in_X1, by decide +kernel, by decide⟩, im_X1_send, sl_X1_send, _, _, rfl⟩
theorem fv_X1_postLoose : ab_FV mX1_postLoose 5 1 := ⟨⟨cd_X1_postLoose, in_X1, by decide +kernel, by decide⟩, im_X1_postLoose, sl_X1_postLoose, _, _, rfl⟩
theorem fv_X1_sendHeld : ab_FV mX1_sendHeld 1 1 := ⟨⟨cd_X1_sendHeld, in_X1, by decide +kernel, by decide⟩, im_X1_sendHeld, sl_X1_sendHeld, _, _, rfl⟩
theorem fv_X1_post : ab_FV mX1_post 2 1 := ⟨⟨cd_X1_post, in_X1, by decide +kernel, by decide⟩, im_X1_post, sl_X1_post, _, _, rfl⟩
theorem fv_X1_end : ab_FV mX1_end 1 1 := ⟨⟨cd_X1_end, in_X1, by decide +kernel, by decide⟩, im_X1_end, sl_X1_end, _, _, rfl⟩
theorem fv_X1_startDriver : ab_FV mX1_startDriver 0 1 := ⟨⟨cd_X1_startDriver, in_X1, by decide +kernel, by decide⟩, im_X1_startDriver, sl_X1_startDriver, _, _, rfl⟩
theorem fv_X1_livingUsers : ab_FV mX1_livingUsers 0 1 := ⟨⟨cd_X1_livingUsers, in_X1, by decide +kernel, by decide⟩, im_X1_livingUsers, sl_X1_livingUsers, _, _, rfl⟩
theorem fi_X2_init : ab_FI mX2_init 0 := ⟨⟨cd_X2_init, in_X2, by decide +kernel, by decide⟩, rfl, im_X2_init, rfl⟩
theorem fv_X2_takeTurn : ab_FV mX2_takeTurn 1 2 := ⟨⟨cd_X2_takeTurn, in_X2, by decide +kernel, by decide⟩, im_X2_takeTurn, sl_X2_takeTurn, _, _, rfl⟩
theorem fv_X2_begin : ab_FV mX2_begin 1 2 := ⟨⟨cd_X2_begin, in_X2, by decide +kernel, by decide⟩, im_X2_begin, sl_X2_begin, _, _, rfl⟩
theorem fv_X2_work : ab_FV mX2_work 1 2 := ⟨⟨cd_X2_work, in_X2, by decide +kernel, by decide⟩, im_X2_work, sl_X2_work, _, _, rfl⟩
theorem fv_X2_loseAll : ab_FV mX2_loseAll 0 2 := ⟨⟨cd_X2_loseAll, in_X2, by decide +kernel, by decide⟩, im_X2_loseAll, sl_X2_loseAll, _, _, rfl⟩
theorem fi_X3_init : ab_FI mX3_init 0 := ⟨⟨cd_X3_init, in_X3, by decide +kernel, by decide⟩, rfl, im_X3_init, rfl⟩
theorem fv_X3_takeTurn : ab_FV mX3_takeTurn 1 3 := ⟨⟨cd_X3_takeTurn, in_X3, by decide +kernel, by decide⟩, im_X3_takeTurn, sl_X3_takeTurn, _, _, rfl⟩
theorem fv_X3_handle : ab_FV mX3_handle 4 3 := ⟨⟨cd_X3_handle, in_X3, by decide +kernel, by decide⟩, im_X3_handle, sl_X3_handle, _, _, rfl⟩
theorem fv_X3_openFile : ab_FV mX3_openFile 2 3 := ⟨⟨cd_X3_openFile, in_X3, by decide +kernel, by decide⟩, im_X3_openFile, sl_X3_openFile, _, _, rfl⟩
theorem fv_X3_removeFile : ab_FV mX3_removeFile 1 3 := ⟨⟨cd_X3_removeFile, in_X3, by decide +kernel, by decide⟩, im_X3_removeFile, sl_X3_removeFile, _, _, rfl⟩
theorem fv_X3_read : ab_FV mX3_read 3 3 := ⟨⟨cd_X3_read, in_X3, by decide +kernel, by decide⟩, im_X3_read, sl_X3_read, _, _, rfl⟩
theorem fv_X3_write : ab_FV mX3_write 4 3 := ⟨⟨cd_X3_write, in_X3, by decide +kernel, by decide⟩, im_X3_write, sl_X3_write, _, _, rfl⟩
theorem fv_X3_whyNotWrite : ab_FV mX3_whyNotWrite 2 3 := ⟨⟨cd_X3_whyNotWrite, in_X3, by decide +kernel, by decide⟩, im_X3_whyNotWrite, sl_X3_whyNotWrite, _, _, rfl⟩
theorem fv_X3_takeInHand : ab_FV mX3_takeInHand 4 3 := ⟨⟨cd_X3_takeInHand, in_X3, by decide +kernel, by decide⟩, im_X3_takeInHand, sl_X3_takeInHand, _, _, rfl⟩
theorem fv_X3_ask : ab_FV mX3_ask 2 3 := ⟨⟨cd_X3_ask, in_X3, by decide +kernel, by decide⟩, im_X3_ask, sl_X3_ask, _, _, rfl⟩
theorem fv_X3_hearOfLife : ab_FV mX3_hearOfLife 2 3 := ⟨⟨cd_X3_hearOfLife, in_X3, by decide +kernel, by decide⟩, im_X3_hearOfLife, sl_X3_hearOfLife, _, _, rfl⟩
theorem fv_X3_goOn : ab_FV mX3_goOn 2 3 := ⟨⟨cd_X3_goOn, in_X3, by decide +kernel, by decide⟩, im_X3_goOn, sl_X3_goOn, _, _, rfl⟩
theorem fi_X4_init : ab_FI mX4_init 0 := ⟨⟨cd_X4_init, in_X4, by decide +kernel, by decide⟩, rfl, im_X4_init, rfl⟩
theorem fv_X4_has : ab_FV mX4_has 1 4 := ⟨⟨cd_X4_has, in_X4, by decide +kernel, by decide⟩, im_X4_has, sl_X4_has, _, _, rfl⟩
theorem fv_X4_sizeOf : ab_FV mX4_sizeOf 1 4 := ⟨⟨cd_X4_sizeOf, in_X4, by decide +kernel, by decide⟩, im_X4_sizeOf, sl_X4_sizeOf, _, _, rfl⟩
theorem fv_X4_blockOf : ab_FV mX4_blockOf 2 4 := ⟨⟨cd_X4_blockOf, in_X4, by decide +kernel, by decide⟩, im_X4_blockOf, sl_X4_blockOf, _, _, rfl⟩
theorem fv_X4_make : ab_FV mX4_make 1 4 := ⟨⟨cd_X4_make, in_X4, by decide +kernel, by decide⟩, im_X4_make, sl_X4_make, _, _, rfl⟩
theorem fv_X4_discard : ab_FV mX4_discard 1 4 := ⟨⟨cd_X4_discard, in_X4, by decide +kernel, by decide⟩, im_X4_discard, sl_X4_discard, _, _, rfl⟩
theorem fv_X4_release : ab_FV mX4_release 1 4 := ⟨⟨cd_X4_release, in_X4, by decide +kernel, by decide⟩, im_X4_release, sl_X4_release, _, _, rfl⟩
theorem fv_X4_needsBlock : ab_FV mX4_needsBlock 2 4 := ⟨⟨cd_X4_needsBlock, in_X4, by decide +kernel, by decide⟩, im_X4_needsBlock, sl_X4_needsBlock, _, _, rfl⟩
theorem fv_X4_takeBlock : ab_FV mX4_takeBlock 2 4 := ⟨⟨cd_X4_takeBlock, in_X4, by decide +kernel, by decide⟩, im_X4_takeBlock, sl_X4_takeBlock, _, _, rfl⟩
theorem fv_X4_growOver : ab_FV mX4_growOver 2 4 := ⟨⟨cd_X4_growOver, in_X4, by decide +kernel, by decide⟩, im_X4_growOver, sl_X4_growOver, _, _, rfl⟩
theorem fi_X5_init : ab_FI mX5_init 0 := ⟨⟨cd_X5_init, in_X5, by decide +kernel, by decide⟩, rfl, im_X5_init, rfl⟩
theorem fv_X5_takeTurn : ab_FV mX5_takeTurn 1 5 := ⟨⟨cd_X5_takeTurn, in_X5, by decide +kernel, by decide⟩, im_X5_takeTurn, sl_X5_takeTurn, _, _, rfl⟩
theorem fv_X5_check : ab_FV mX5_check 1 5 := ⟨⟨cd_X5_check, in_X5, by decide +kernel, by decide⟩, im_X5_check, sl_X5_check, _, _, rfl⟩
theorem fv_X5_watchDead : ab_FV mX5_watchDead 1 5 := ⟨⟨cd_X5_watchDead, in_X5, by decide +kernel, by decide⟩, im_X5_watchDead, sl_X5_watchDead, _, _, rfl⟩
theorem fi_X6_init : ab_FI mX6_init 0 := ⟨⟨cd_X6_init, in_X6, by decide +kernel, by decide⟩, rfl, im_X6_init, rfl⟩
theorem fv_X6_write : ab_FV mX6_write 4 6 := ⟨⟨cd_X6_write, in_X6, by decide +kernel, by decide⟩, im_X6_write, sl_X6_write, _, _, rfl⟩
theorem fv_X6_setNumbers : ab_FV mX6_setNumbers 2 6 := ⟨⟨cd_X6_setNumbers, in_X6, by decide +kernel, by decide⟩, im_X6_setNumbers, sl_X6_setNumbers, _, _, rfl⟩
theorem fv_X6_copy : ab_FV mX6_copy 1 6 := ⟨⟨cd_X6_copy, in_X6, by decide +kernel, by decide⟩, im_X6_copy, sl_X6_copy, _, _, rfl⟩
theorem fi_X7_init : ab_FI mX7_init 0 := ⟨⟨cd_X7_init, in_X7, by decide +kernel, by decide⟩, rfl, im_X7_init, rfl⟩
theorem fv_X7_slot : ab_FV mX7_slot 2 7 := ⟨⟨cd_X7_slot, in_X7, by decide +kernel, by decide⟩, im_X7_slot, sl_X7_slot, _, _, rfl⟩
theorem fv_X7_fileAt : ab_FV mX7_fileAt 2 7 := ⟨⟨cd_X7_fileAt, in_X7, by decide +kernel, by decide⟩, im_X7_fileAt, sl_X7_fileAt, _, _, rfl⟩
theorem fv_X7_placeAt : ab_FV mX7_placeAt 2 7 := ⟨⟨cd_X7_placeAt, in_X7, by decide +kernel, by decide⟩, im_X7_placeAt, sl_X7_placeAt, _, _, rfl⟩
theorem fv_X7_setPlace : ab_FV mX7_setPlace 3 7 := ⟨⟨cd_X7_setPlace, in_X7, by decide +kernel, by decide⟩, im_X7_setPlace, sl_X7_setPlace, _, _, rfl⟩
theorem fv_X7_leastFree : ab_FV mX7_leastFree 1 7 := ⟨⟨cd_X7_leastFree, in_X7, by decide +kernel, by decide⟩, im_X7_leastFree, sl_X7_leastFree, _, _, rfl⟩
theorem fv_X7_howMany : ab_FV mX7_howMany 1 7 := ⟨⟨cd_X7_howMany, in_X7, by decide +kernel, by decide⟩, im_X7_howMany, sl_X7_howMany, _, _, rfl⟩
theorem fv_X7_anybodyHas : ab_FV mX7_anybodyHas 1 7 := ⟨⟨cd_X7_anybodyHas, in_X7, by decide +kernel, by decide⟩, im_X7_anybodyHas, sl_X7_anybodyHas, _, _, rfl⟩
theorem fv_X7_set : ab_FV mX7_set 4 7 := ⟨⟨cd_X7_set, in_X7, by decide +kernel, by decide⟩, im_X7_set, sl_X7_set, _, _, rfl⟩
theorem fv_X7_closeAll : ab_FV mX7_closeAll 1 7 := ⟨⟨cd_X7_closeAll, in_X7, by decide +kernel, by decide⟩, im_X7_closeAll, sl_X7_closeAll, _, _, rfl⟩
theorem fv_X7_copyAll : ab_FV mX7_copyAll 2 7 := ⟨⟨cd_X7_copyAll, in_X7, by decide +kernel, by decide⟩, im_X7_copyAll, sl_X7_copyAll, _, _, rfl⟩
theorem fi_X8_init : ab_FI mX8_init 0 := ⟨⟨cd_X8_init, in_X8, by decide +kernel, by decide⟩, rfl, im_X8_init, rfl⟩
theorem fv_X8_hasEnded : ab_FV mX8_hasEnded 1 8 := ⟨⟨cd_X8_hasEnded, in_X8, by decide +kernel, by decide⟩, im_X8_hasEnded, sl_X8_hasEnded, _, _, rfl⟩
theorem fv_X8_parentOf : ab_FV mX8_parentOf 1 8 := ⟨⟨cd_X8_parentOf, in_X8, by decide +kernel, by decide⟩, im_X8_parentOf, sl_X8_parentOf, _, _, rfl⟩
theorem fv_X8_codeOf : ab_FV mX8_codeOf 1 8 := ⟨⟨cd_X8_codeOf, in_X8, by decide +kernel, by decide⟩, im_X8_codeOf, sl_X8_codeOf, _, _, rfl⟩
theorem fv_X8_takeTurn : ab_FV mX8_takeTurn 2 8 := ⟨⟨cd_X8_takeTurn, in_X8, by decide +kernel, by decide⟩, im_X8_takeTurn, sl_X8_takeTurn, _, _, rfl⟩
theorem fv_X8_fork : ab_FV mX8_fork 2 8 := ⟨⟨cd_X8_fork, in_X8, by decide +kernel, by decide⟩, im_X8_fork, sl_X8_fork, _, _, rfl⟩
theorem fv_X8_end : ab_FV mX8_end 5 8 := ⟨⟨cd_X8_end, in_X8, by decide +kernel, by decide⟩, im_X8_end, sl_X8_end, _, _, rfl⟩
theorem fv_X8_waitFor : ab_FV mX8_waitFor 3 8 := ⟨⟨cd_X8_waitFor, in_X8, by decide +kernel, by decide⟩, im_X8_waitFor, sl_X8_waitFor, _, _, rfl⟩
theorem fv_X8_await : ab_FV mX8_await 2 8 := ⟨⟨cd_X8_await, in_X8, by decide +kernel, by decide⟩, im_X8_await, sl_X8_await, _, _, rfl⟩
theorem fv_X8_collect : ab_FV mX8_collect 1 8 := ⟨⟨cd_X8_collect, in_X8, by decide +kernel, by decide⟩, im_X8_collect, sl_X8_collect, _, _, rfl⟩
theorem fv_X8_goOn : ab_FV mX8_goOn 1 8 := ⟨⟨cd_X8_goOn, in_X8, by decide +kernel, by decide⟩, im_X8_goOn, sl_X8_goOn, _, _, rfl⟩
theorem fv_X8_leaveChildren : ab_FV mX8_leaveChildren 1 8 := ⟨⟨cd_X8_leaveChildren, in_X8, by decide +kernel, by decide⟩, im_X8_leaveChildren, sl_X8_leaveChildren, _, _, rfl⟩
theorem fi_X9_init : ab_FI mX9_init 0 := ⟨⟨cd_X9_init, in_X9, by decide +kernel, by decide⟩, rfl, im_X9_init, rfl⟩
theorem fv_X9_hasCall : ab_FV mX9_hasCall 1 9 := ⟨⟨cd_X9_hasCall, in_X9, by decide +kernel, by decide⟩, im_X9_hasCall, sl_X9_hasCall, _, _, rfl⟩
theorem fv_X9_setCall : ab_FV mX9_setCall 2 9 := ⟨⟨cd_X9_setCall, in_X9, by decide +kernel, by decide⟩, im_X9_setCall, sl_X9_setCall, _, _, rfl⟩
theorem fv_X9_takeTurn : ab_FV mX9_takeTurn 2 9 := ⟨⟨cd_X9_takeTurn, in_X9, by decide +kernel, by decide⟩, im_X9_takeTurn, sl_X9_takeTurn, _, _, rfl⟩
theorem fi_X10_init : ab_FI mX10_init 0 := ⟨⟨cd_X10_init, in_X10, by decide +kernel, by decide⟩, rfl, im_X10_init, rfl⟩
theorem fv_X10_call : ab_FV mX10_call 4 10 := ⟨⟨cd_X10_call, in_X10, by decide +kernel, by decide⟩, im_X10_call, sl_X10_call, _, _, rfl⟩
theorem fv_X10_steps : ab_FV mX10_steps 1 10 := ⟨⟨cd_X10_steps, in_X10, by decide +kernel, by decide⟩, im_X10_steps, sl_X10_steps, _, _, rfl⟩
theorem fv_X10_until : ab_FV mX10_until 2 10 := ⟨⟨cd_X10_until, in_X10, by decide +kernel, by decide⟩, im_X10_until, sl_X10_until, _, _, rfl⟩
theorem fv_X10_crash : ab_FV mX10_crash 0 10 := ⟨⟨cd_X10_crash, in_X10, by decide +kernel, by decide⟩, im_X10_crash, sl_X10_crash, _, _, rfl⟩
theorem fv_X10_hang : ab_FV mX10_hang 0 10 := ⟨⟨cd_X10_hang, in_X10, by decide +kernel, by decide⟩, im_X10_hang, sl_X10_hang, _, _, rfl⟩
theorem fv_X10_force : ab_FV mX10_force 2 10 := ⟨⟨cd_X10_force, in_X10, by decide +kernel, by decide⟩, im_X10_force, sl_X10_force, _, _, rfl⟩
theorem fv_X10_user : ab_FV mX10_user 2 10 := ⟨⟨cd_X10_user, in_X10, by decide +kernel, by decide⟩, im_X10_user, sl_X10_user, _, _, rfl⟩
theorem fv_X10_descriptor : ab_FV mX10_descriptor 3 10 := ⟨⟨cd_X10_descriptor, in_X10, by decide +kernel, by decide⟩, im_X10_descriptor, sl_X10_descriptor, _, _, rfl⟩
theorem fv_X10_file : ab_FV mX10_file 2 10 := ⟨⟨cd_X10_file, in_X10, by decide +kernel, by decide⟩, im_X10_file, sl_X10_file, _, _, rfl⟩
theorem fv_X10_disk : ab_FV mX10_disk 2 10 := ⟨⟨cd_X10_disk, in_X10, by decide +kernel, by decide⟩, im_X10_disk, sl_X10_disk, _, _, rfl⟩
theorem fv_X10_inbox : ab_FV mX10_inbox 1 10 := ⟨⟨cd_X10_inbox, in_X10, by decide +kernel, by decide⟩, im_X10_inbox, sl_X10_inbox, _, _, rfl⟩
theorem fv_X10_message : ab_FV mX10_message 3 10 := ⟨⟨cd_X10_message, in_X10, by decide +kernel, by decide⟩, im_X10_message, sl_X10_message, _, _, rfl⟩
theorem fv_X10_count : ab_FV mX10_count 1 10 := ⟨⟨cd_X10_count, in_X10, by decide +kernel, by decide⟩, im_X10_count, sl_X10_count, _, _, rfl⟩
theorem fv_X10_giveTurn : ab_FV mX10_giveTurn 0 10 := ⟨⟨cd_X10_giveTurn, in_X10, by decide +kernel, by decide⟩, im_X10_giveTurn, sl_X10_giveTurn, _, _, rfl⟩
theorem fv_X10_breakDriver : ab_FV mX10_breakDriver 0 10 := ⟨⟨cd_X10_breakDriver, in_X10, by decide +kernel, by decide⟩, im_X10_breakDriver, sl_X10_breakDriver, _, _, rfl⟩
theorem fs_X10_isPart : ab_FS mX10_isPart 1 := ⟨⟨cd_X10_isPart, in_X10, by decide +kernel, by decide⟩, sm_X10_isPart⟩
theorem fs_X10_isUser : ab_FS mX10_isUser 1 := ⟨⟨cd_X10_isUser, in_X10, by decide +kernel, by decide⟩, sm_X10_isUser⟩
theorem fv_X11_thrown : ab_FV mX11_thrown 0 11 := ⟨⟨cd_X11_thrown, in_X11, by decide +kernel, by decide⟩, im_X11_thrown, sl_X11_thrown, _, _, rfl⟩
theorem fv_X11_drafts : ab_FV mX11_drafts 3 11 := ⟨⟨cd_X11_drafts, in_X11, by decide +kernel, by decide⟩, im_X11_drafts, sl_X11_drafts, _, _, rfl⟩
theorem fs_X11_isUser : ab_FS mX11_isUser 1 := ⟨⟨cd_X11_isUser, in_X11, by decide +kernel, by decide⟩, sm_X11_isUser⟩
theorem fs_X11_isAllowed : ab_FS mX11_isAllowed 2 := ⟨⟨cd_X11_isAllowed, in_X11, by decide +kernel, by decide⟩, sm_X11_isAllowed⟩
theorem fv_X11_lives : ab_FV mX11_lives 1 11 := ⟨⟨cd_X11_lives, in_X11, by decide +kernel, by decide⟩, im_X11_lives, sl_X11_lives, _, _, rfl⟩
theorem fv_X11_send : ab_FV mX11_send 3 11 := ⟨⟨cd_X11_send, in_X11, by decide +kernel, by decide⟩, im_X11_send, sl_X11_send, _, _, rfl⟩
theorem fv_X11_sends : ab_FV mX11_sends 2 11 := ⟨⟨cd_X11_sends, in_X11, by decide +kernel, by decide⟩, im_X11_sends, sl_X11_sends, _, _, rfl⟩
theorem fv_X11_sendsAgain : ab_FV mX11_sendsAgain 1 11 := ⟨⟨cd_X11_sendsAgain, in_X11, by decide +kernel, by decide⟩, im_X11_sendsAgain, sl_X11_sendsAgain, _, _, rfl⟩
theorem fv_X11_takeOut : ab_FV mX11_takeOut 2 11 := ⟨⟨cd_X11_takeOut, in_X11, by decide +kernel, by decide⟩, im_X11_takeOut, sl_X11_takeOut, _, _, rfl⟩
theorem fv_X11_drop : ab_FV mX11_drop 2 11 := ⟨⟨cd_X11_drop, in_X11, by decide +kernel, by decide⟩, im_X11_drop, sl_X11_drop, _, _, rfl⟩
theorem fv_X11_field : ab_FV mX11_field 3 11 := ⟨⟨cd_X11_field, in_X11, by decide +kernel, by decide⟩, im_X11_field, sl_X11_field, _, _, rfl⟩
theorem fi_X11_init : ab_FI mX11_init 0 := ⟨⟨cd_X11_init, in_X11, by decide +kernel, by decide⟩, rfl, im_X11_init, rfl⟩
theorem fv_X11_crashesNow : ab_FV mX11_crashesNow 0 11 := ⟨⟨cd_X11_crashesNow, in_X11, by decide +kernel, by decide⟩, im_X11_crashesNow, sl_X11_crashesNow, _, _, rfl⟩
theorem fv_X11_keeper : ab_FV mX11_keeper 0 11 := ⟨⟨cd_X11_keeper, in_X11, by decide +kernel, by decide⟩, im_X11_keeper, sl_X11_keeper, _, _, rfl⟩
theorem fv_X11_starts : ab_FV mX11_starts 0 11 := ⟨⟨cd_X11_starts, in_X11, by decide +kernel, by decide⟩, im_X11_starts, sl_X11_starts, _, _, rfl⟩
theorem fv_X11_driver : ab_FV mX11_driver 0 11 := ⟨⟨cd_X11_driver, in_X11, by decide +kernel, by decide⟩, im_X11_driver, sl_X11_driver, _, _, rfl⟩
theorem fv_X11_works : ab_FV mX11_works 0 11 := ⟨⟨cd_X11_works, in_X11, by decide +kernel, by decide⟩, im_X11_works, sl_X11_works, _, _, rfl⟩
theorem fv_X11_files : ab_FV mX11_files 0 11 := ⟨⟨cd_X11_files, in_X11, by decide +kernel, by decide⟩, im_X11_files, sl_X11_files, _, _, rfl⟩
theorem fv_X11_asksDriver : ab_FV mX11_asksDriver 0 11 := ⟨⟨cd_X11_asksDriver, in_X11, by decide +kernel, by decide⟩, im_X11_asksDriver, sl_X11_asksDriver, _, _, rfl⟩
theorem fv_X11_tells : ab_FV mX11_tells 3 11 := ⟨⟨cd_X11_tells, in_X11, by decide +kernel, by decide⟩, im_X11_tells, sl_X11_tells, _, _, rfl⟩
theorem fv_X11_copies : ab_FV mX11_copies 2 11 := ⟨⟨cd_X11_copies, in_X11, by decide +kernel, by decide⟩, im_X11_copies, sl_X11_copies, _, _, rfl⟩
theorem fv_X11_closesAll : ab_FV mX11_closesAll 1 11 := ⟨⟨cd_X11_closesAll, in_X11, by decide +kernel, by decide⟩, im_X11_closesAll, sl_X11_closesAll, _, _, rfl⟩
theorem fv_X11_begins : ab_FV mX11_begins 4 11 := ⟨⟨cd_X11_begins, in_X11, by decide +kernel, by decide⟩, im_X11_begins, sl_X11_begins, _, _, rfl⟩
theorem fv_X11_opens : ab_FV mX11_opens 2 11 := ⟨⟨cd_X11_opens, in_X11, by decide +kernel, by decide⟩, im_X11_opens, sl_X11_opens, _, _, rfl⟩
theorem fv_X11_filesThere : ab_FV mX11_filesThere 0 11 := ⟨⟨cd_X11_filesThere, in_X11, by decide +kernel, by decide⟩, im_X11_filesThere, sl_X11_filesThere, _, _, rfl⟩
theorem fv_X11_removes : ab_FV mX11_removes 1 11 := ⟨⟨cd_X11_removes, in_X11, by decide +kernel, by decide⟩, im_X11_removes, sl_X11_removes, _, _, rfl⟩
theorem fv_X11_reads : ab_FV mX11_reads 3 11 := ⟨⟨cd_X11_reads, in_X11, by decide +kernel, by decide⟩, im_X11_reads, sl_X11_reads, _, _, rfl⟩
theorem fv_X11_writes : ab_FV mX11_writes 4 11 := ⟨⟨cd_X11_writes, in_X11, by decide +kernel, by decide⟩, im_X11_writes, sl_X11_writes, _, _, rfl⟩
theorem fv_X11_goesOn : ab_FV mX11_goesOn 0 11 := ⟨⟨cd_X11_goesOn, in_X11, by decide +kernel, by decide⟩, im_X11_goesOn, sl_X11_goesOn, _, _, rfl⟩
theorem fv_X11_processes : ab_FV mX11_processes 0 11 := ⟨⟨cd_X11_processes, in_X11, by decide +kernel, by decide⟩, im_X11_processes, sl_X11_processes, _, _, rfl⟩
theorem fv_X11_forks : ab_FV mX11_forks 1 11 := ⟨⟨cd_X11_forks, in_X11, by decide +kernel, by decide⟩, im_X11_forks, sl_X11_forks, _, _, rfl⟩
theorem fv_X11_holds : ab_FV mX11_holds 3 11 := ⟨⟨cd_X11_holds, in_X11, by decide +kernel, by decide⟩, im_X11_holds, sl_X11_holds, _, _, rfl⟩
theorem fv_X11_ends : ab_FV mX11_ends 4 11 := ⟨⟨cd_X11_ends, in_X11, by decide +kernel, by decide⟩, im_X11_ends, sl_X11_ends, _, _, rfl⟩
theorem fv_X11_done : ab_FV mX11_done 0 11 := ⟨⟨cd_X11_done, in_X11, by decide +kernel, by decide⟩, im_X11_done, sl_X11_done, _, _, rfl⟩
theorem fv_X11_freed : ab_FV mX11_freed 1 11 := ⟨⟨cd_X11_freed, in_X11, by decide +kernel, by decide⟩, im_X11_freed, sl_X11_freed, _, _, rfl⟩
theorem fv_X11_waitsFor : ab_FV mX11_waitsFor 1 11 := ⟨⟨cd_X11_waitsFor, in_X11, by decide +kernel, by decide⟩, im_X11_waitsFor, sl_X11_waitsFor, _, _, rfl⟩
theorem fv_X11_ofUser : ab_FV mX11_ofUser 1 11 := ⟨⟨cd_X11_ofUser, in_X11, by decide +kernel, by decide⟩, im_X11_ofUser, sl_X11_ofUser, _, _, rfl⟩
theorem fv_X11_turn : ab_FV mX11_turn 0 11 := ⟨⟨cd_X11_turn, in_X11, by decide +kernel, by decide⟩, im_X11_turn, sl_X11_turn, _, _, rfl⟩
theorem fv_X11_steps : ab_FV mX11_steps 1 11 := ⟨⟨cd_X11_steps, in_X11, by decide +kernel, by decide⟩, im_X11_steps, sl_X11_steps, _, _, rfl⟩
theorem fv_X11_until : ab_FV mX11_until 2 11 := ⟨⟨cd_X11_until, in_X11, by decide +kernel, by decide⟩, im_X11_until, sl_X11_until, _, _, rfl⟩
theorem fv_X11_call : ab_FV mX11_call 4 11 := ⟨⟨cd_X11_call, in_X11, by decide +kernel, by decide⟩, im_X11_call, sl_X11_call, _, _, rfl⟩
theorem fv_X11_crash : ab_FV mX11_crash 0 11 := ⟨⟨cd_X11_crash, in_X11, by decide +kernel, by decide⟩, im_X11_crash, sl_X11_crash, _, _, rfl⟩
theorem fv_X11_hang : ab_FV mX11_hang 0 11 := ⟨⟨cd_X11_hang, in_X11, by decide +kernel, by decide⟩, im_X11_hang, sl_X11_hang, _, _, rfl⟩
theorem fs_X11_isPart : ab_FS mX11_isPart 1 := ⟨⟨cd_X11_isPart, in_X11, by decide +kernel, by decide⟩, sm_X11_isPart⟩
theorem fv_X11_force : ab_FV mX11_force 2 11 := ⟨⟨cd_X11_force, in_X11, by decide +kernel, by decide⟩, im_X11_force, sl_X11_force, _, _, rfl⟩
theorem fv_X11_user : ab_FV mX11_user 2 11 := ⟨⟨cd_X11_user, in_X11, by decide +kernel, by decide⟩, im_X11_user, sl_X11_user, _, _, rfl⟩
theorem fv_X11_descriptor : ab_FV mX11_descriptor 3 11 := ⟨⟨cd_X11_descriptor, in_X11, by decide +kernel, by decide⟩, im_X11_descriptor, sl_X11_descriptor, _, _, rfl⟩
theorem fv_X11_file : ab_FV mX11_file 2 11 := ⟨⟨cd_X11_file, in_X11, by decide +kernel, by decide⟩, im_X11_file, sl_X11_file, _, _, rfl⟩
theorem fv_X11_disk : ab_FV mX11_disk 2 11 := ⟨⟨cd_X11_disk, in_X11, by decide +kernel, by decide⟩, im_X11_disk, sl_X11_disk, _, _, rfl⟩
theorem fv_X11_inbox : ab_FV mX11_inbox 1 11 := ⟨⟨cd_X11_inbox, in_X11, by decide +kernel, by decide⟩, im_X11_inbox, sl_X11_inbox, _, _, rfl⟩
theorem fv_X11_message : ab_FV mX11_message 3 11 := ⟨⟨cd_X11_message, in_X11, by decide +kernel, by decide⟩, im_X11_message, sl_X11_message, _, _, rfl⟩
theorem fv_X11_count : ab_FV mX11_count 1 11 := ⟨⟨cd_X11_count, in_X11, by decide +kernel, by decide⟩, im_X11_count, sl_X11_count, _, _, rfl⟩
theorem fs_J9_floorMod_7cf53 : ab_FS mJ9_floorMod_7cf53 2 := ⟨⟨cd_J9_floorMod_7cf53, in_J9, by decide +kernel, by decide⟩, sm_J9_floorMod_7cf53⟩
theorem nn_X1_27 : Cond.methodLinkNest RX1 27 yX6_init "ServerHouse" ∈ ab_nest := List.mem_of_getElem? (i := 0) rfl
theorem nn_X0_17 : Cond.methodLinkNest RX0 17 yX6_init "ServerHouse" ∈ ab_nest := List.mem_of_getElem? (i := 1) rfl
theorem nn_X10_18 : Cond.methodLinkNest RX10 18 yX5_init "ServerHouse" ∈ ab_nest := List.mem_of_getElem? (i := 2) rfl
theorem nn_X10_25 : Cond.methodLinkNest RX10 25 yX2_init "ServerHouse" ∈ ab_nest := List.mem_of_getElem? (i := 3) rfl
theorem nn_X10_32 : Cond.methodLinkNest RX10 32 yX3_init "ServerHouse" ∈ ab_nest := List.mem_of_getElem? (i := 4) rfl
theorem nn_X3_11 : Cond.methodLinkNest RX3 11 yX4_init "ServerHouse" ∈ ab_nest := List.mem_of_getElem? (i := 5) rfl
theorem nn_X10_46 : Cond.methodLinkNest RX10 46 yX9_init "ServerHouse" ∈ ab_nest := List.mem_of_getElem? (i := 6) rfl
theorem nn_X9_22 : Cond.methodLinkNest RX9 22 yX10_isUser "ServerHouse" ∈ ab_nest := List.mem_of_getElem? (i := 7) rfl
theorem nn_X1_37 : Cond.methodLinkNest RX1 37 yX10_isPart "ServerHouse" ∈ ab_nest := List.mem_of_getElem? (i := 8) rfl
theorem nn_X7_18 : Cond.methodLinkNest RX7 18 yX10_isUser "ServerHouse" ∈ ab_nest := List.mem_of_getElem? (i := 9) rfl
theorem nn_X8_55 : Cond.methodLinkNest RX8 55 yX10_isPart "ServerHouse" ∈ ab_nest := List.mem_of_getElem? (i := 10) rfl
theorem nn_X8_25 : Cond.methodLinkNest RX8 25 yX10_isUser "ServerHouse" ∈ ab_nest := List.mem_of_getElem? (i := 11) rfl
end
section
/-! THE REFERENCE's STORE: place 0 the object, 1 .. 22 its arrays; m is what they hold -/
abbrev mD : Type := Nat → Nat → Int32
def shM : Nat → Nat × Nat := fun q => ([(11, 49), (100, 1872), (100, 12), (100, 13), (100, 156), (100, 12), (100, 13), (100, 12), (101, 12), (100, 12), (100, 12), (100, 12), (100, 12), (101, 12), (100, 48), (100, 48), (101, 16), (100, 16), (100, 64), (101, 24), (100, 192), (100, 8), (100, 8)] : List (Nat × Nat)).getD q (999, 0)
def crM : Nat → Nat → Option Nat := fun q j => if q = 0 then (([(1, 1), (2, 2), (3, 3), (4, 4), (5, 5), (8, 6), (9, 7), (10, 8), (11, 9), (12, 10), (13, 11), (14, 12), (15, 13), (16, 14), (17, 15), (18, 16), (19, 17), (20, 18), (21, 19), (22, 20), (29, 21), (42, 22)] : List (Nat × Nat)).lookup j) else none
def sM (m : mD) : ab_S := (23, shM, m, crM)
abbrev mV (M : ab_M) (d : Nat) (tt : Prop) (Q : Option Value → ab_S → Prop) (pc : Nat) (ls : List (Option Value)) (st : List Value) (m : mD) : Prop := ab_V M d 0 0 tt Q 0 0 pc ls st (sM m)
/-- the ends: an int and a state, a state -/
def mQi (z : Int32 × mD) : Option Value → ab_S → Prop := fun r σ => r = some (.int z.1) ∧ σ = sM z.2
def mQv (z : mD) : Option Value → ab_S → Prop := fun r σ => r = none ∧ σ = sM z
theorem ab_inc (j : Nat) : nI j + Int32.ofInt 1 = nI (j + 1) := nI_1 j
theorem ab_dec (j : Nat) : nI (j + 1) + Int32.ofInt (-1) = nI j := pk_m1 j
theorem ab_nat {x : Int32} (h : ¬ x < 0) : x = nI x.toNatClampNeg := by
  obtain ⟨j, hj, rfl⟩ := nI_of h
  rw [nI_clamp hj]
section MO
variable {M : ab_M} {d mc ms : Nat} {tt : Prop} {Q : Option Value → ab_S → Prop} {kc ks pc : Nat} {ls : List (Option Value)} {st : List Value} {σ : ab_S} {m : mD}
theorem ab_top {v w : Value} (h : v = w) (k : ab_V M d mc ms tt Q kc ks pc ls (w :: st) σ) : ab_V M d mc ms tt Q kc ks pc ls (v :: st) σ := by rw [h]; exact k
theorem ab_topI {x y : Int32} (h : x = y) (k : ab_V M d mc ms tt Q kc ks pc ls (.int y :: st) σ) : ab_V M d mc ms tt Q kc ks pc ls (.int x :: st) σ := by rw [h]; exact k
theorem ab_iaddN {a b : Nat} (hd : decode M.2.1 pc = .ok (.iadd, 1)) (k : ab_V M d mc ms tt Q kc ks (pc + 1) ls (.int (nI (a + b)) :: st) σ) : ab_V M d mc ms tt Q kc ks pc ls (.int (nI b) :: .int (nI a) :: st) σ := ab_iadd hd (by rw [nI_add]; exact k)
theorem ab_imulN {a b : Nat} (hd : decode M.2.1 pc = .ok (.imul, 1)) (k : ab_V M d mc ms tt Q kc ks (pc + 1) ls (.int (nI (a * b)) :: st) σ) : ab_V M d mc ms tt Q kc ks pc ls (.int (nI b) :: .int (nI a) :: st) σ := ab_imul hd (by rw [pk_mul]; exact k)
theorem ab_isubN {a b : Nat} (hd : decode M.2.1 pc = .ok (.isub, 1)) (h : b ≤ a) (k : ab_V M d mc ms tt Q kc ks (pc + 1) ls (.int (nI (a - b)) :: st) σ) : ab_V M d mc ms tt Q kc ks pc ls (.int (nI b) :: .int (nI a) :: st) σ := ab_isub hd (by rw [pk_sub h]; exact k)
theorem ab_idivN {a b : Nat} (hd : decode M.2.1 pc = .ok (.idiv, 1)) (ha : a < 2147483648) (h0 : 0 < b) (hb : b < 2147483648) (k : ab_V M d mc ms tt Q kc ks (pc + 1) ls (.int (nI (a / b)) :: st) σ) : ab_V M d mc ms tt Q kc ks pc ls (.int (nI b) :: .int (nI a) :: st) σ := ab_idiv hd (nI_ne0 h0 hb) (by rw [pk_div ha h0 hb]; exact k)
theorem ab_iremN {a b : Nat} (hd : decode M.2.1 pc = .ok (.irem, 1)) (ha : a < 2147483648) (h0 : 0 < b) (hb : b < 2147483648) (k : ab_V M d mc ms tt Q kc ks (pc + 1) ls (.int (nI (a % b)) :: st) σ) : ab_V M d mc ms tt Q kc ks pc ls (.int (nI b) :: .int (nI a) :: st) σ := ab_irem hd (nI_ne0 h0 hb) (by rw [pk_rem ha h0 hb]; exact k)
theorem ab_icmp_eqN {a b tgt : Nat} {off : Int} (hd : decode M.2.1 pc = .ok (.if_icmp .eq off, 3)) (htg : (pc : Int) + off = (tgt : Int)) (ha : a < 2147483648) (hb : b < 2147483648) (kt : a = b → ab_V M d mc ms tt Q kc ks tgt ls st σ) (kf : ¬ a = b → ab_V M d mc ms tt Q kc ks (pc + 3) ls st σ) : ab_V M d mc ms tt Q kc ks pc ls (.int (nI b) :: .int (nI a) :: st) σ := ab_icmp_eq hd htg (fun h => kt ((nI_eq ha hb).mp h)) (fun h => kf (fun e => h ((nI_eq ha hb).mpr e)))
theorem ab_icmp_neN {a b tgt : Nat} {off : Int} (hd : decode M.2.1 pc = .ok (.if_icmp .ne off, 3)) (htg : (pc : Int) + off = (tgt : Int)) (ha : a < 2147483648) (hb : b < 2147483648) (kt : ¬ a = b → ab_V M d mc ms tt Q kc ks tgt ls st σ) (kf : a = b → ab_V M d mc ms tt Q kc ks (pc + 3) ls st σ) : ab_V M d mc ms tt Q kc ks pc ls (.int (nI b) :: .int (nI a) :: st) σ := ab_icmp_ne hd htg (fun h => kt (fun e => h ((nI_eq ha hb).mpr e))) (fun h => kf ((nI_eq ha hb).mp h))
theorem ab_icmp_ltN {a b tgt : Nat} {off : Int} (hd : decode M.2.1 pc = .ok (.if_icmp .lt off, 3)) (htg : (pc : Int) + off = (tgt : Int)) (ha : a < 2147483648) (hb : b < 2147483648) (kt : a < b → ab_V M d mc ms tt Q kc ks tgt ls st σ) (kf : ¬ a < b → ab_V M d mc ms tt Q kc ks (pc + 3) ls st σ) : ab_V M d mc ms tt Q kc ks pc ls (.int (nI b) :: .int (nI a) :: st) σ := ab_icmp_lt hd htg (fun h => kt ((nI_ltI ha hb).mp h)) (fun h => kf (fun e => h ((nI_ltI ha hb).mpr e)))
theorem ab_icmp_gtN {a b tgt : Nat} {off : Int} (hd : decode M.2.1 pc = .ok (.if_icmp .gt off, 3)) (htg : (pc : Int) + off = (tgt : Int)) (ha : a < 2147483648) (hb : b < 2147483648) (kt : b < a → ab_V M d mc ms tt Q kc ks tgt ls st σ) (kf : ¬ b < a → ab_V M d mc ms tt Q kc ks (pc + 3) ls st σ) : ab_V M d mc ms tt Q kc ks pc ls (.int (nI b) :: .int (nI a) :: st) σ := ab_icmp_gt hd htg (fun h => kt ((nI_ltI hb ha).mp h)) (fun h => kf (fun e => h ((nI_ltI hb ha).mpr e)))
theorem ab_icmp_geN {a b tgt : Nat} {off : Int} (hd : decode M.2.1 pc = .ok (.if_icmp .ge off, 3)) (htg : (pc : Int) + off = (tgt : Int)) (ha : a < 2147483648) (hb : b < 2147483648) (kt : b ≤ a → ab_V M d mc ms tt Q kc ks tgt ls st σ) (kf : ¬ b ≤ a → ab_V M d mc ms tt Q kc ks (pc + 3) ls st σ) : ab_V M d mc ms tt Q kc ks pc ls (.int (nI b) :: .int (nI a) :: st) σ := ab_icmp_ge hd htg (fun h => kt ((nI_leI hb ha).mp h)) (fun h => kf (fun e => h ((nI_leI hb ha).mpr e)))
theorem ab_icmp_leN {a b tgt : Nat} {off : Int} (hd : decode M.2.1 pc = .ok (.if_icmp .le off, 3)) (htg : (pc : Int) + off = (tgt : Int)) (ha : a < 2147483648) (hb : b < 2147483648) (kt : a ≤ b → ab_V M d mc ms tt Q kc ks tgt ls st σ) (kf : ¬ a ≤ b → ab_V M d mc ms tt Q kc ks (pc + 3) ls st σ) : ab_V M d mc ms tt Q kc ks pc ls (.int (nI b) :: .int (nI a) :: st) σ := ab_icmp_le hd htg (fun h => kt ((nI_leI ha hb).mp h)) (fun h => kf (fun e => h ((nI_leI ha hb).mpr e)))
theorem ab_if_eqN {a tgt : Nat} {off : Int} (hd : decode M.2.1 pc = .ok (.ifCond .eq off, 3)) (htg : (pc : Int) + off = (tgt : Int)) (ha : a < 2147483648) (kt : a = 0 → ab_V M d mc ms tt Q kc ks tgt ls st σ) (kf : ¬ a = 0 → ab_V M d mc ms tt Q kc ks (pc + 3) ls st σ) : ab_V M d mc ms tt Q kc ks pc ls (.int (nI a) :: st) σ := ab_if_eq hd htg (fun h => kt ((nI_eq ha (by decide)).mp h)) (fun h => kf (fun e => h ((nI_eq ha (by decide)).mpr e)))
theorem ab_if_neN {a tgt : Nat} {off : Int} (hd : decode M.2.1 pc = .ok (.ifCond .ne off, 3)) (htg : (pc : Int) + off = (tgt : Int)) (ha : a < 2147483648) (kt : ¬ a = 0 → ab_V M d mc ms tt Q kc ks tgt ls st σ) (kf : a = 0 → ab_V M d mc ms tt Q kc ks (pc + 3) ls st σ) : ab_V M d mc ms tt Q kc ks pc ls (.int (nI a) :: st) σ := ab_if_ne hd htg (fun h => kt (fun e => h ((nI_eq ha (by decide)).mpr e))) (fun h => kf ((nI_eq ha (by decide)).mp h))
theorem ab_ialdN {q n len : Nat} (hd : decode M.2.1 pc = .ok (.iaload, 1)) (hk : ab_is σ q 100) (hl : (σ.2.1 q).2 = len) (hi : n < len) (hb : len < 2147483648) (k : ab_V M d mc ms tt Q kc ks (pc + 1) ls (.int (σ.2.2.1 q n) :: st) σ) : ab_V M d mc ms tt Q kc ks pc ls (.int (nI n) :: .ref q :: st) σ := ab_iald hd hk (by rw [hl]; exact vp_in_nI hi hb) (by rw [nI_clamp (Nat.lt_trans hi hb)]; exact k)
theorem ab_zaldN {q n len : Nat} (hd : decode M.2.1 pc = .ok (.baload, 1)) (hk : ab_is σ q 101) (hl : (σ.2.1 q).2 = len) (hi : n < len) (hb : len < 2147483648) (k : ab_V M d mc ms tt Q kc ks (pc + 1) ls (.int (σ.2.2.1 q n) :: st) σ) : ab_V M d mc ms tt Q kc ks pc ls (.int (nI n) :: .ref q :: st) σ := ab_zald hd hk (by rw [hl]; exact vp_in_nI hi hb) (by rw [nI_clamp (Nat.lt_trans hi hb)]; exact k)
theorem ab_iastN {q n len : Nat} {x : Int32} (hd : decode M.2.1 pc = .ok (.iastore, 1)) (hk : ab_is σ q 100) (hl : (σ.2.1 q).2 = len) (hi : n < len) (hb : len < 2147483648) (k : ab_V M d mc ms tt Q kc ks (pc + 1) ls st (ab_si σ q n x)) : ab_V M d mc ms tt Q kc ks pc ls (.int x :: .int (nI n) :: .ref q :: st) σ := ab_iast hd hk (by rw [hl]; exact vp_in_nI hi hb) (by rw [nI_clamp (Nat.lt_trans hi hb)]; exact k)
theorem ab_zastN {q n len : Nat} {x : Int32} (hd : decode M.2.1 pc = .ok (.bastore, 1)) (hk : ab_is σ q 101) (hl : (σ.2.1 q).2 = len) (hi : n < len) (hb : len < 2147483648) (hx : x = 0 ∨ x = 1) (k : ab_V M d mc ms tt Q kc ks (pc + 1) ls st (ab_si σ q n x)) : ab_V M d mc ms tt Q kc ks pc ls (.int x :: .int (nI n) :: .ref q :: st) σ := ab_zast hd hk (by rw [hl]; exact vp_in_nI hi hb) hx (by rw [nI_clamp (Nat.lt_trans hi hb)]; exact k)
theorem ab_nat1 {x : Int32} {n : Nat} (h : x = nI n) (k : ab_V M d mc ms tt Q kc ks pc ls (.int (nI n) :: st) σ) : ab_V M d mc ms tt Q kc ks pc ls (.int x :: st) σ := by rw [h]; exact k
-- the reference's own
theorem mo_gi {idx j : Nat} (hd : decode M.2.1 pc = .ok (.getfield idx, 3)) (hf : ab_FL M.1.cls idx 11 j) (hr : ab_isR (ab_ty 11 j) = false) (k : mV M d tt Q (pc + 3) ls (.int (m 0 j) :: st) m) : mV M d tt Q pc ls (.ref 0 :: st) m := ab_getI hd hf ⟨Nat.le_of_ble_eq_true rfl, rfl⟩ hr k
theorem mo_gr {idx j a : Nat} (hd : decode M.2.1 pc = .ok (.getfield idx, 3)) (hf : ab_FL M.1.cls idx 11 j) (hr : ab_isR (ab_ty 11 j) = true) (ha : crM 0 j = some a) (k : mV M d tt Q (pc + 3) ls (.ref a :: st) m) : mV M d tt Q pc ls (.ref 0 :: st) m := ab_getR hd hf ⟨Nat.le_of_ble_eq_true rfl, rfl⟩ hr ha k
theorem mo_pi {idx j : Nat} {v : Int32} (hd : decode M.2.1 pc = .ok (.putfield idx, 3)) (hf : ab_FL M.1.cls idx 11 j) (hr : ab_isR (ab_ty 11 j) = false) (hp : (TX11 j).2.2.2 = false) (hv : ab_ok (ab_ty 11 j) v) (k : mV M d tt Q (pc + 3) ls st (ab_up m 0 j v)) : mV M d tt Q pc ls (.int v :: .ref 0 :: st) m := ab_putI hd hf ⟨Nat.le_of_ble_eq_true rfl, rfl⟩ hr (fun C T N h => Or.inl (by cases h; exact hp)) hv k
theorem mo_ild {a n len : Nat} (hd : decode M.2.1 pc = .ok (.iaload, 1)) (ha : a < 23) (hs : shM a = (100, len)) (hi : n < len) (hb : len < 2147483648) (k : mV M d tt Q (pc + 1) ls (.int (m a n) :: st) m) : mV M d tt Q pc ls (.int (nI n) :: .ref a :: st) m := ab_ialdN hd ⟨ha, congrArg Prod.fst hs⟩ (congrArg Prod.snd hs) hi hb k
theorem mo_zld {a n len : Nat} (hd : decode M.2.1 pc = .ok (.baload, 1)) (ha : a < 23) (hs : shM a = (101, len)) (hi : n < len) (hb : len < 2147483648) (k : mV M d tt Q (pc + 1) ls (.int (m a n) :: st) m) : mV M d tt Q pc ls (.int (nI n) :: .ref a :: st) m := ab_zaldN hd ⟨ha, congrArg Prod.fst hs⟩ (congrArg Prod.snd hs) hi hb k
theorem mo_ist {a n len : Nat} {x : Int32} (hd : decode M.2.1 pc = .ok (.iastore, 1)) (ha : a < 23) (hs : shM a = (100, len)) (hi : n < len) (hb : len < 2147483648) (k : mV M d tt Q (pc + 1) ls st (ab_up m a n x)) : mV M d tt Q pc ls (.int x :: .int (nI n) :: .ref a :: st) m := ab_iastN hd ⟨ha, congrArg Prod.fst hs⟩ (congrArg Prod.snd hs) hi hb k
theorem mo_zst {a n len : Nat} {x : Int32} (hd : decode M.2.1 pc = .ok (.bastore, 1)) (ha : a < 23) (hs : shM a = (101, len)) (hi : n < len) (hb : len < 2147483648) (hx : x = 0 ∨ x = 1) (k : mV M d tt Q (pc + 1) ls st (ab_up m a n x)) : mV M d tt Q pc ls (.int x :: .int (nI n) :: .ref a :: st) m := ab_zastN hd ⟨ha, congrArg Prod.fst hs⟩ (congrArg Prod.snd hs) hi hb hx k
theorem mo_inv {N : ab_M} {d' idx : Nat} {av : List Value} {Q' : Option Value → ab_S → Prop} (hd : decode M.2.1 pc = .ok (.invokevirtual idx, 3)) (hl : Cond.methodLink M.1.cls idx N.1 ∈ gw) (hF : ab_FV N av.length 11) (hst : (st.map fun v => v.category).sum ≤ 8) (hdd : d' + 1 ≤ d) (hM : ab_Met N d' 0 0 tt (.ref 0 :: av) (sM m) Q') (k : ∀ r σ', Q' r σ' → ab_V M d 0 0 tt Q 0 0 (pc + 3) ls (r.toList ++ st) σ') : mV M d tt Q pc ls (av.reverse ++ .ref 0 :: st) m := ab_invV hd hl hF ⟨Nat.le_of_ble_eq_true rfl, rfl⟩ hst hdd ⟨Nat.le_refl _, Nat.le_refl _⟩ hM k
theorem mo_invi {N : ab_M} {d' idx : Nat} {av : List Value} {z : Int32 × mD} (hd : decode M.2.1 pc = .ok (.invokevirtual idx, 3)) (hl : Cond.methodLink M.1.cls idx N.1 ∈ gw) (hF : ab_FV N av.length 11) (hst : (st.map fun v => v.category).sum ≤ 8) (hdd : d' + 1 ≤ d) (hM : ab_Met N d' 0 0 tt (.ref 0 :: av) (sM m) (mQi z)) (k : mV M d tt Q (pc + 3) ls (.int z.1 :: st) z.2) : mV M d tt Q pc ls (av.reverse ++ .ref 0 :: st) m := mo_inv hd hl hF hst hdd hM (fun r σ' h => by obtain ⟨rfl, rfl⟩ := h; exact k)
theorem mo_invv {N : ab_M} {d' idx : Nat} {av : List Value} {z : mD} (hd : decode M.2.1 pc = .ok (.invokevirtual idx, 3)) (hl : Cond.methodLink M.1.cls idx N.1 ∈ gw) (hF : ab_FV N av.length 11) (hst : (st.map fun v => v.category).sum ≤ 8) (hdd : d' + 1 ≤ d) (hM : ab_Met N d' 0 0 tt (.ref 0 :: av) (sM m) (mQv z)) (k : mV M d tt Q (pc + 3) ls st z) : mV M d tt Q pc ls (av.reverse ++ .ref 0 :: st) m := mo_inv hd hl hF hst hdd hM (fun r σ' h => by obtain ⟨rfl, rfl⟩ := h; exact k)
theorem mo_invs {N : ab_M} {d' idx : Nat} {av : List Value} {z : Int32} (hd : decode M.2.1 pc = .ok (.invokestatic idx, 3)) (hl : Cond.methodLink M.1.cls idx N.1 ∈ gw) (hF : ab_FS N av.length) (hst : (st.map fun v => v.category).sum ≤ 8) (hdd : d' + 1 ≤ d) (hM : ab_Met N d' 0 0 tt av (sM m) (mQi (z, m))) (k : mV M d tt Q (pc + 3) ls (.int z :: st) m) : mV M d tt Q pc ls (av.reverse ++ st) m := ab_invS hd hl hF hst hdd ⟨Nat.le_refl _, Nat.le_refl _⟩ hM (fun r σ' h => by obtain ⟨rfl, rfl⟩ := h; exact k)
theorem mo_ir {v : Int32} {z : Int32 × mD} {ty : FieldType} (hd : decode M.2.1 pc = .ok (.ireturn, 1)) (hr : M.2.2.2 = some ty) (hn : narrow ty (.int v) = .int v) (hz : z = (v, m)) : mV M d tt (mQi z) pc ls [.int v] m := ab_ireturn hd hr hn ⟨Nat.le_refl _, Nat.le_refl _⟩ (fun _ => rfl) (by rw [hz]; exact ⟨rfl, rfl⟩)
theorem mo_vr {z : mD} (hd : decode M.2.1 pc = .ok (.return_, 1)) (hr : M.2.2.2 = none) (hz : z = m) : mV M d tt (mQv z) pc ls [] m := ab_return hd hr ⟨Nat.le_refl _, Nat.le_refl _⟩ (fun _ => rfl) (by rw [hz]; exact ⟨rfl, rfl⟩)
end MO
end
section
theorem mo_eqi {M : ab_M} {d : Nat} {tt : Prop} {z z' : Int32 × mD} {pc : Nat} {ls : List (Option Value)} {st : List Value} {m : mD} (h : z = z') (k : mV M d tt (mQi z') pc ls st m) : mV M d tt (mQi z) pc ls st m := by rw [h]; exact k
theorem mo_eqr {M : ab_M} {d : Nat} {tt : Prop} {z z' : Int32 × mD} {pc : Nat} {ls : List (Option Value)} {st : List Value} {m : mD} (h : z = z') (k : mV M d tt (mQi z') pc ls st m) : mV M d tt (mQi z) pc ls st m := by rw [h]; exact k
theorem mo_eqv {M : ab_M} {d : Nat} {tt : Prop} {z z' : mD} {pc : Nat} {ls : List (Option Value)} {st : List Value} {m : mD} (h : z = z') (k : mV M d tt (mQv z') pc ls st m) : mV M d tt (mQv z) pc ls st m := by rw [h]; exact k
theorem mo_invr {M : ab_M} {d : Nat} {tt : Prop} {Q : Option Value → ab_S → Prop} {pc : Nat} {ls : List (Option Value)} {st : List Value} {m : mD} {N : ab_M} {d' idx : Nat} {av : List Value} {z : Int32} (hd : decode M.2.1 pc = .ok (.invokevirtual idx, 3)) (hl : Cond.methodLink M.1.cls idx N.1 ∈ gw) (hF : ab_FV N av.length 11) (hst : (st.map fun v => v.category).sum ≤ 8) (hdd : d' + 1 ≤ d) (hM : ab_Met N d' 0 0 tt (.ref 0 :: av) (sM m) (mQi (z, m))) (k : mV M d tt Q (pc + 3) ls (.int z :: st) m) : mV M d tt Q pc ls (av.reverse ++ .ref 0 :: st) m := mo_invi hd hl hF hst hdd hM k
theorem ab_nb {v : Int32} (h : v = 0 ∨ v = 1) : narrow .boolean (.int v) = .int v := by rcases h with rfl | rfl <;> decide
def ab_fw : List (Option Value) → List (Option Value) → Prop
  | [], _ => True
  | none :: a, _ :: b => ab_fw a b
  | some v :: a, some w :: b => v = w ∧ ab_fw a b
  | none :: _, [] => False
  | some _ :: _, none :: _ => False
  | some _ :: _, [] => False
theorem ab_fw_ok : ∀ {a b : List (Option Value)}, ab_fw a b → ∀ (i : Nat) (v : Value), a[i]? = some (some v) → b[i]? = some (some v)
  | [], _, _, i, v, hi => by simp at hi
  | none :: a, _ :: b, h, 0, v, hi => by simp at hi
  | none :: a, _ :: b, h, i + 1, v, hi => ab_fw_ok (a := a) (b := b) h i v hi
  | some x :: a, some w :: b, h, 0, v, hi => by
    have h1 : x = w := h.1
    subst h1
    exact hi
  | some x :: a, some w :: b, h, i + 1, v, hi => ab_fw_ok (a := a) (b := b) h.2 i v hi
  | none :: _, [], h, _, _, _ => h.elim
  | some _ :: _, none :: _, h, _, _, _ => h.elim
  | some _ :: _, [], h, _, _, _ => h.elim
section ABT
variable {M : ab_M} {d mc ms : Nat} {tt : Prop} {Q : Option Value → ab_S → Prop} {kc ks pc : Nat} {ls : List (Option Value)} {st : List Value} {σ : ab_S}
theorem ab_wk {ls2 : List (Option Value)} (h : ab_fw ls2 ls) (k : ab_V M d mc ms tt Q kc ks pc ls2 st σ) : ab_V M d mc ms tt Q kc ks pc ls st σ := by
  intro p l e s m args below meth c H locs lsA G A hI hL hP hD hS ht
  exact k p l e s m args below meth c H locs lsA G A hI ⟨hL.1, hL.2.1, fun i v hi => hL.2.2 i v (ab_fw_ok h i v hi)⟩ hP hD hS ht
theorem ab_nat3 {x y : Int32} {v w : Value} (h : x = y) (k : ab_V M d mc ms tt Q kc ks pc ls (v :: .int y :: w :: st) σ) : ab_V M d mc ms tt Q kc ks pc ls (v :: .int x :: w :: st) σ := by rw [h]; exact k
theorem ab_stk1 {a a' : Value} (h : a = a') (k : ab_V M d mc ms tt Q kc ks pc ls (a' :: st) σ) : ab_V M d mc ms tt Q kc ks pc ls (a :: st) σ := by rw [h]; exact k
theorem ab_stk2 {a a' b b' : Value} (h : a = a') (h2 : b = b') (k : ab_V M d mc ms tt Q kc ks pc ls (a' :: b' :: st) σ) : ab_V M d mc ms tt Q kc ks pc ls (a :: b :: st) σ := by rw [h, h2]; exact k
theorem ab_stk3 {a a' b b' c c' : Value} (h : a = a') (h2 : b = b') (h3 : c = c') (k : ab_V M d mc ms tt Q kc ks pc ls (a' :: b' :: c' :: st) σ) : ab_V M d mc ms tt Q kc ks pc ls (a :: b :: c :: st) σ := by rw [h, h2, h3]; exact k
theorem ab_stk4 {a a' b b' c c' e e' : Value} (h : a = a') (h2 : b = b') (h3 : c = c') (h4 : e = e') (k : ab_V M d mc ms tt Q kc ks pc ls (a' :: b' :: c' :: e' :: st) σ) : ab_V M d mc ms tt Q kc ks pc ls (a :: b :: c :: e :: st) σ := by rw [h, h2, h3, h4]; exact k
end ABT
def FisUser (p : Int32) : Int32 :=
  if (p) < (nI (4)) then
    (nI (0))
  else
    if (nI (12)) ≤ (p) then
      (nI (0))
    else
      (nI (1))
set_option maxRecDepth 100000 in
set_option maxHeartbeats 4000000 in
theorem c_isUser {tt : Prop} (p : Int32) (m : mD) (hD : True) : ab_Met mX11_isUser 0 0 0 tt [.int (p)] (sM m) (mQi (FisUser p, m)) := by
  refine ab_Met.of rfl (Nat.le_of_ble_eq_true rfl) ?_
  show mV mX11_isUser 0 tt (mQi (FisUser p, m)) 0 [some (.int (p))] [] m
  refine ab_iload_n (pc := 0) dX11_isUser_0 rfl rfl ?_
  refine ab_iconst (pc := 1) (v := nI 4) dX11_isUser_1 (by decide) ?_
  refine ab_icmp_lt (pc := 2) (tgt := 15) dX11_isUser_2 (by decide) (fun c_2 => ?_) (fun c_2 => ?_)
  · refine ab_iconst (pc := 15) (v := nI 0) dX11_isUser_15 (by decide) ?_
    refine mo_ir (pc := 16) dX11_isUser_16 rfl (ab_nb (Or.inl rfl)) ?_
    first | (rw [FisUser]; (try dsimp only); rw [if_pos c_2]; done) | (rw [FisUser]; (try dsimp only); rw [if_pos c_2]; rfl)
  · refine ab_iload_n (pc := 5) dX11_isUser_5 rfl rfl ?_
    refine ab_bipush (pc := 6) (v := nI 12) dX11_isUser_6 (by decide) ?_
    refine ab_icmp_ge (pc := 8) (tgt := 15) dX11_isUser_8 (by decide) (fun c_8 => ?_) (fun c_8 => ?_)
    · refine ab_iconst (pc := 15) (v := nI 0) dX11_isUser_15 (by decide) ?_
      refine mo_ir (pc := 16) dX11_isUser_16 rfl (ab_nb (Or.inl rfl)) ?_
      first | (rw [FisUser]; (try dsimp only); rw [if_neg c_2, if_pos c_8]; done) | (rw [FisUser]; (try dsimp only); rw [if_neg c_2, if_pos c_8]; rfl)
    · refine ab_iconst (pc := 11) (v := nI 1) dX11_isUser_11 (by decide) ?_
      refine ab_goto (pc := 12) (tgt := 16) dX11_isUser_12 (by decide) ?_
      refine mo_ir (pc := 16) dX11_isUser_16 rfl (ab_nb (Or.inr rfl)) ?_
      first | (rw [FisUser]; (try dsimp only); rw [if_neg c_2, if_neg c_8]; done) | (rw [FisUser]; (try dsimp only); rw [if_neg c_2, if_neg c_8]; rfl)
def FisPart (p : Int32) : Int32 :=
  if (p) < 0 then
    (nI (0))
  else
    if (nI (12)) ≤ (p) then
      (nI (0))
    else
      (nI (1))
set_option maxRecDepth 100000 in
set_option maxHeartbeats 4000000 in
theorem c_isPart {tt : Prop} (p : Int32) (m : mD) (hD : True) : ab_Met mX11_isPart 0 0 0 tt [.int (p)] (sM m) (mQi (FisPart p, m)) := by
  refine ab_Met.of rfl (Nat.le_of_ble_eq_true rfl) ?_
  show mV mX11_isPart 0 tt (mQi (FisPart p, m)) 0 [some (.int (p))] [] m
  refine ab_iload_n (pc := 0) dX11_isPart_0 rfl rfl ?_
  refine ab_if_lt (pc := 1) (tgt := 14) dX11_isPart_1 (by decide) (fun c_1 => ?_) (fun c_1 => ?_)
  · refine ab_iconst (pc := 14) (v := nI 0) dX11_isPart_14 (by decide) ?_
    refine mo_ir (pc := 15) dX11_isPart_15 rfl (ab_nb (Or.inl rfl)) ?_
    first | (rw [FisPart]; (try dsimp only); rw [if_pos c_1]; done) | (rw [FisPart]; (try dsimp only); rw [if_pos c_1]; rfl)
  · refine ab_iload_n (pc := 4) dX11_isPart_4 rfl rfl ?_
    refine ab_bipush (pc := 5) (v := nI 12) dX11_isPart_5 (by decide) ?_
    refine ab_icmp_ge (pc := 7) (tgt := 14) dX11_isPart_7 (by decide) (fun c_7 => ?_) (fun c_7 => ?_)
    · refine ab_iconst (pc := 14) (v := nI 0) dX11_isPart_14 (by decide) ?_
      refine mo_ir (pc := 15) dX11_isPart_15 rfl (ab_nb (Or.inl rfl)) ?_
      first | (rw [FisPart]; (try dsimp only); rw [if_neg c_1, if_pos c_7]; done) | (rw [FisPart]; (try dsimp only); rw [if_neg c_1, if_pos c_7]; rfl)
    · refine ab_iconst (pc := 10) (v := nI 1) dX11_isPart_10 (by decide) ?_
      refine ab_goto (pc := 11) (tgt := 15) dX11_isPart_11 (by decide) ?_
      refine mo_ir (pc := 15) dX11_isPart_15 rfl (ab_nb (Or.inr rfl)) ?_
      first | (rw [FisPart]; (try dsimp only); rw [if_neg c_1, if_neg c_7]; done) | (rw [FisPart]; (try dsimp only); rw [if_neg c_1, if_neg c_7]; rfl)
def FisAllowed (a : Int32) (b : Int32) : Int32 :=
  if (a) = 0 then
    if (b) = (nI (1)) then
      (nI (1))
    else
      if (b) = (nI (2)) then
        (nI (1))
      else
        (nI (0))
  else if (a) = 1 then
    if (b) = 0 then
      (nI (1))
    else
      if (b) = (nI (2)) then
        (nI (1))
      else
        (nI (0))
  else if (a) = 2 then
    if (b) = (nI (1)) then
      (nI (1))
    else
      if (b) = (nI (3)) then
        (nI (1))
      else
        if (FisUser (b)) = 0 then
          (nI (0))
        else
          (nI (1))
  else if (a) = 3 then
    if (b) = (nI (2)) then
      (nI (1))
    else
      if (FisUser (b)) = 0 then
        (nI (0))
      else
        (nI (1))
  else
    if (b) = (nI (2)) then
      (nI (1))
    else
      if (b) = (nI (3)) then
        (nI (1))
      else
        (nI (0))
set_option maxRecDepth 100000 in
set_option maxHeartbeats 4000000 in
theorem c_isAllowed {tt : Prop} (a : Int32) (b : Int32) (m : mD) (hD : True) : ab_Met mX11_isAllowed 1 0 0 tt [.int (a), .int (b)] (sM m) (mQi (FisAllowed a b, m)) := by
  refine ab_Met.of rfl (Nat.le_of_ble_eq_true rfl) ?_
  show mV mX11_isAllowed 1 tt (mQi (FisAllowed a b, m)) 0 [some (.int (a)), some (.int (b))] [] m
  refine ab_iload_n (pc := 0) dX11_isAllowed_0 rfl rfl ?_
  refine ab_tsw (pc := 1) [(0, 32), (1, 48), (2, 63), (3, 86)] 104 dX11_isAllowed_1 (by decide +kernel) (ab_c1 (fun c_1 => ?_) (ab_c1 (fun c_1 => ?_) (ab_c1 (fun c_1 => ?_) (ab_c1 (fun c_1 => ?_) (ab_c0))))) (fun c_1 => ?_)
  · refine ab_iload_n (pc := 32) dX11_isAllowed_32 rfl rfl ?_
    refine ab_iconst (pc := 33) (v := nI 1) dX11_isAllowed_33 (by decide) ?_
    refine ab_icmp_eq (pc := 34) (tgt := 42) dX11_isAllowed_34 (by decide) (fun c_34 => ?_) (fun c_34 => ?_)
    · refine ab_iconst (pc := 42) (v := nI 1) dX11_isAllowed_42 (by decide) ?_
      refine ab_goto (pc := 43) (tgt := 47) dX11_isAllowed_43 (by decide) ?_
      refine mo_ir (pc := 47) dX11_isAllowed_47 rfl (ab_nb (Or.inr rfl)) ?_
      first | (rw [FisAllowed]; (try dsimp only); rw [if_pos c_1, if_pos c_34]; done) | (rw [FisAllowed]; (try dsimp only); rw [if_pos c_1, if_pos c_34]; rfl)
    · refine ab_iload_n (pc := 37) dX11_isAllowed_37 rfl rfl ?_
      refine ab_iconst (pc := 38) (v := nI 2) dX11_isAllowed_38 (by decide) ?_
      refine ab_icmp_ne (pc := 39) (tgt := 46) dX11_isAllowed_39 (by decide) (fun c_39 => ?_) (fun c_39 => ?_)
      · refine ab_iconst (pc := 46) (v := nI 0) dX11_isAllowed_46 (by decide) ?_
        refine mo_ir (pc := 47) dX11_isAllowed_47 rfl (ab_nb (Or.inl rfl)) ?_
        first | (rw [FisAllowed]; (try dsimp only); rw [if_pos c_1, if_neg c_34, if_neg c_39]; done) | (rw [FisAllowed]; (try dsimp only); rw [if_pos c_1, if_neg c_34, if_neg c_39]; rfl)
      · refine ab_iconst (pc := 42) (v := nI 1) dX11_isAllowed_42 (by decide) ?_
        refine ab_goto (pc := 43) (tgt := 47) dX11_isAllowed_43 (by decide) ?_
        refine mo_ir (pc := 47) dX11_isAllowed_47 rfl (ab_nb (Or.inr rfl)) ?_
        first | (rw [FisAllowed]; (try dsimp only); rw [if_pos c_1, if_neg c_34, if_pos c_39]; done) | (rw [FisAllowed]; (try dsimp only); rw [if_pos c_1, if_neg c_34, if_pos c_39]; rfl)
  · refine ab_iload_n (pc := 48) dX11_isAllowed_48 rfl rfl ?_
    refine ab_if_eq (pc := 49) (tgt := 57) dX11_isAllowed_49 (by decide) (fun c_49 => ?_) (fun c_49 => ?_)
    · refine ab_iconst (pc := 57) (v := nI 1) dX11_isAllowed_57 (by decide) ?_
      refine ab_goto (pc := 58) (tgt := 62) dX11_isAllowed_58 (by decide) ?_
      refine mo_ir (pc := 62) dX11_isAllowed_62 rfl (ab_nb (Or.inr rfl)) ?_
      first | (rw [FisAllowed]; (try dsimp only); rw [if_neg (fun h => absurd (c_1.symm.trans h) (by decide)), if_pos c_1, if_pos c_49]; done) | (rw [FisAllowed]; (try dsimp only); rw [if_neg (fun h => absurd (c_1.symm.trans h) (by decide)), if_pos c_1, if_pos c_49]; rfl)
    · refine ab_iload_n (pc := 52) dX11_isAllowed_52 rfl rfl ?_
      refine ab_iconst (pc := 53) (v := nI 2) dX11_isAllowed_53 (by decide) ?_
      refine ab_icmp_ne (pc := 54) (tgt := 61) dX11_isAllowed_54 (by decide) (fun c_54 => ?_) (fun c_54 => ?_)
      · refine ab_iconst (pc := 61) (v := nI 0) dX11_isAllowed_61 (by decide) ?_
        refine mo_ir (pc := 62) dX11_isAllowed_62 rfl (ab_nb (Or.inl rfl)) ?_
        first | (rw [FisAllowed]; (try dsimp only); rw [if_neg (fun h => absurd (c_1.symm.trans h) (by decide)), if_pos c_1, if_neg c_49, if_neg c_54]; done) | (rw [FisAllowed]; (try dsimp only); rw [if_neg (fun h => absurd (c_1.symm.trans h) (by decide)), if_pos c_1, if_neg c_49, if_neg c_54]; rfl)
      · refine ab_iconst (pc := 57) (v := nI 1) dX11_isAllowed_57 (by decide) ?_
        refine ab_goto (pc := 58) (tgt := 62) dX11_isAllowed_58 (by decide) ?_
        refine mo_ir (pc := 62) dX11_isAllowed_62 rfl (ab_nb (Or.inr rfl)) ?_
        first | (rw [FisAllowed]; (try dsimp only); rw [if_neg (fun h => absurd (c_1.symm.trans h) (by decide)), if_pos c_1, if_neg c_49, if_pos c_54]; done) | (rw [FisAllowed]; (try dsimp only); rw [if_neg (fun h => absurd (c_1.symm.trans h) (by decide)), if_pos c_1, if_neg c_49, if_pos c_54]; rfl)
  · refine ab_iload_n (pc := 63) dX11_isAllowed_63 rfl rfl ?_
    refine ab_iconst (pc := 64) (v := nI 1) dX11_isAllowed_64 (by decide) ?_
    refine ab_icmp_eq (pc := 65) (tgt := 80) dX11_isAllowed_65 (by decide) (fun c_65 => ?_) (fun c_65 => ?_)
    · refine ab_iconst (pc := 80) (v := nI 1) dX11_isAllowed_80 (by decide) ?_
      refine ab_goto (pc := 81) (tgt := 85) dX11_isAllowed_81 (by decide) ?_
      refine mo_ir (pc := 85) dX11_isAllowed_85 rfl (ab_nb (Or.inr rfl)) ?_
      first | (rw [FisAllowed]; (try dsimp only); rw [if_neg (fun h => absurd (c_1.symm.trans h) (by decide)), if_neg (fun h => absurd (c_1.symm.trans h) (by decide)), if_pos c_1, if_pos c_65]; done) | (rw [FisAllowed]; (try dsimp only); rw [if_neg (fun h => absurd (c_1.symm.trans h) (by decide)), if_neg (fun h => absurd (c_1.symm.trans h) (by decide)), if_pos c_1, if_pos c_65]; rfl)
    · refine ab_iload_n (pc := 68) dX11_isAllowed_68 rfl rfl ?_
      refine ab_iconst (pc := 69) (v := nI 3) dX11_isAllowed_69 (by decide) ?_
      refine ab_icmp_eq (pc := 70) (tgt := 80) dX11_isAllowed_70 (by decide) (fun c_70 => ?_) (fun c_70 => ?_)
      · refine ab_iconst (pc := 80) (v := nI 1) dX11_isAllowed_80 (by decide) ?_
        refine ab_goto (pc := 81) (tgt := 85) dX11_isAllowed_81 (by decide) ?_
        refine mo_ir (pc := 85) dX11_isAllowed_85 rfl (ab_nb (Or.inr rfl)) ?_
        first | (rw [FisAllowed]; (try dsimp only); rw [if_neg (fun h => absurd (c_1.symm.trans h) (by decide)), if_neg (fun h => absurd (c_1.symm.trans h) (by decide)), if_pos c_1, if_neg c_65, if_pos c_70]; done) | (rw [FisAllowed]; (try dsimp only); rw [if_neg (fun h => absurd (c_1.symm.trans h) (by decide)), if_neg (fun h => absurd (c_1.symm.trans h) (by decide)), if_pos c_1, if_neg c_65, if_pos c_70]; rfl)
      · refine ab_iload_n (pc := 73) dX11_isAllowed_73 rfl rfl ?_
        refine mo_invs (N := mX11_isUser) (pc := 74) (d' := 0) (av := [_]) dX11_isAllowed_74 ml_X11_11 fs_X11_isUser (Nat.le_of_ble_eq_true rfl) (by decide) (c_isUser _ _ trivial) ?_
        refine ab_if_eq (pc := 77) (tgt := 84) dX11_isAllowed_77 (by decide) (fun c_77 => ?_) (fun c_77 => ?_)
        · refine ab_iconst (pc := 84) (v := nI 0) dX11_isAllowed_84 (by decide) ?_
          refine mo_ir (pc := 85) dX11_isAllowed_85 rfl (ab_nb (Or.inl rfl)) ?_
          first | (rw [FisAllowed]; (try dsimp only); rw [if_neg (fun h => absurd (c_1.symm.trans h) (by decide)), if_neg (fun h => absurd (c_1.symm.trans h) (by decide)), if_pos c_1, if_neg c_65, if_neg c_70, if_pos c_77]; done) | (rw [FisAllowed]; (try dsimp only); rw [if_neg (fun h => absurd (c_1.symm.trans h) (by decide)), if_neg (fun h => absurd (c_1.symm.trans h) (by decide)), if_pos c_1, if_neg c_65, if_neg c_70, if_pos c_77]; rfl)
        · refine ab_iconst (pc := 80) (v := nI 1) dX11_isAllowed_80 (by decide) ?_
          refine ab_goto (pc := 81) (tgt := 85) dX11_isAllowed_81 (by decide) ?_
          refine mo_ir (pc := 85) dX11_isAllowed_85 rfl (ab_nb (Or.inr rfl)) ?_
          first | (rw [FisAllowed]; (try dsimp only); rw [if_neg (fun h => absurd (c_1.symm.trans h) (by decide)), if_neg (fun h => absurd (c_1.symm.trans h) (by decide)), if_pos c_1, if_neg c_65, if_neg c_70, if_neg c_77]; done) | (rw [FisAllowed]; (try dsimp only); rw [if_neg (fun h => absurd (c_1.symm.trans h) (by decide)), if_neg (fun h => absurd (c_1.symm.trans h) (by decide)), if_pos c_1, if_neg c_65, if_neg c_70, if_neg c_77]; rfl)
  · refine ab_iload_n (pc := 86) dX11_isAllowed_86 rfl rfl ?_
    refine ab_iconst (pc := 87) (v := nI 2) dX11_isAllowed_87 (by decide) ?_
    refine ab_icmp_eq (pc := 88) (tgt := 98) dX11_isAllowed_88 (by decide) (fun c_88 => ?_) (fun c_88 => ?_)
    · refine ab_iconst (pc := 98) (v := nI 1) dX11_isAllowed_98 (by decide) ?_
      refine ab_goto (pc := 99) (tgt := 103) dX11_isAllowed_99 (by decide) ?_
      refine mo_ir (pc := 103) dX11_isAllowed_103 rfl (ab_nb (Or.inr rfl)) ?_
      first | (rw [FisAllowed]; (try dsimp only); rw [if_neg (fun h => absurd (c_1.symm.trans h) (by decide)), if_neg (fun h => absurd (c_1.symm.trans h) (by decide)), if_neg (fun h => absurd (c_1.symm.trans h) (by decide)), if_pos c_1, if_pos c_88]; done) | (rw [FisAllowed]; (try dsimp only); rw [if_neg (fun h => absurd (c_1.symm.trans h) (by decide)), if_neg (fun h => absurd (c_1.symm.trans h) (by decide)), if_neg (fun h => absurd (c_1.symm.trans h) (by decide)), if_pos c_1, if_pos c_88]; rfl)
    · refine ab_iload_n (pc := 91) dX11_isAllowed_91 rfl rfl ?_
      refine mo_invs (N := mX11_isUser) (pc := 92) (d' := 0) (av := [_]) dX11_isAllowed_92 ml_X11_11 fs_X11_isUser (Nat.le_of_ble_eq_true rfl) (by decide) (c_isUser _ _ trivial) ?_
      refine ab_if_eq (pc := 95) (tgt := 102) dX11_isAllowed_95 (by decide) (fun c_95 => ?_) (fun c_95 => ?_)
      · refine ab_iconst (pc := 102) (v := nI 0) dX11_isAllowed_102 (by decide) ?_
        refine mo_ir (pc := 103) dX11_isAllowed_103 rfl (ab_nb (Or.inl rfl)) ?_
        first | (rw [FisAllowed]; (try dsimp only); rw [if_neg (fun h => absurd (c_1.symm.trans h) (by decide)), if_neg (fun h => absurd (c_1.symm.trans h) (by decide)), if_neg (fun h => absurd (c_1.symm.trans h) (by decide)), if_pos c_1, if_neg c_88, if_pos c_95]; done) | (rw [FisAllowed]; (try dsimp only); rw [if_neg (fun h => absurd (c_1.symm.trans h) (by decide)), if_neg (fun h => absurd (c_1.symm.trans h) (by decide)), if_neg (fun h => absurd (c_1.symm.trans h) (by decide)), if_pos c_1, if_neg c_88, if_pos c_95]; rfl)
      · refine ab_iconst (pc := 98) (v := nI 1) dX11_isAllowed_98 (by decide) ?_
        refine ab_goto (pc := 99) (tgt := 103) dX11_isAllowed_99 (by decide) ?_
        refine mo_ir (pc := 103) dX11_isAllowed_103 rfl (ab_nb (Or.inr rfl)) ?_
        first | (rw [FisAllowed]; (try dsimp only); rw [if_neg (fun h => absurd (c_1.symm.trans h) (by decide)), if_neg (fun h => absurd (c_1.symm.trans h) (by decide)), if_neg (fun h => absurd (c_1.symm.trans h) (by decide)), if_pos c_1, if_neg c_88, if_neg c_95]; done) | (rw [FisAllowed]; (try dsimp only); rw [if_neg (fun h => absurd (c_1.symm.trans h) (by decide)), if_neg (fun h => absurd (c_1.symm.trans h) (by decide)), if_neg (fun h => absurd (c_1.symm.trans h) (by decide)), if_pos c_1, if_neg c_88, if_neg c_95]; rfl)
  · refine ab_iload_n (pc := 104) dX11_isAllowed_104 rfl rfl ?_
    refine ab_iconst (pc := 105) (v := nI 2) dX11_isAllowed_105 (by decide) ?_
    refine ab_icmp_eq (pc := 106) (tgt := 114) dX11_isAllowed_106 (by decide) (fun c_106 => ?_) (fun c_106 => ?_)
    · refine ab_iconst (pc := 114) (v := nI 1) dX11_isAllowed_114 (by decide) ?_
      refine ab_goto (pc := 115) (tgt := 119) dX11_isAllowed_115 (by decide) ?_
      refine mo_ir (pc := 119) dX11_isAllowed_119 rfl (ab_nb (Or.inr rfl)) ?_
      first | (rw [FisAllowed]; (try dsimp only); rw [if_neg (c_1 _ (List.mem_of_getElem? (i := 0) rfl)), if_neg (c_1 _ (List.mem_of_getElem? (i := 1) rfl)), if_neg (c_1 _ (List.mem_of_getElem? (i := 2) rfl)), if_neg (c_1 _ (List.mem_of_getElem? (i := 3) rfl)), if_pos c_106]; done) | (rw [FisAllowed]; (try dsimp only); rw [if_neg (c_1 _ (List.mem_of_getElem? (i := 0) rfl)), if_neg (c_1 _ (List.mem_of_getElem? (i := 1) rfl)), if_neg (c_1 _ (List.mem_of_getElem? (i := 2) rfl)), if_neg (c_1 _ (List.mem_of_getElem? (i := 3) rfl)), if_pos c_106]; rfl)
    · refine ab_iload_n (pc := 109) dX11_isAllowed_109 rfl rfl ?_
      refine ab_iconst (pc := 110) (v := nI 3) dX11_isAllowed_110 (by decide) ?_
      refine ab_icmp_ne (pc := 111) (tgt := 118) dX11_isAllowed_111 (by decide) (fun c_111 => ?_) (fun c_111 => ?_)
      · refine ab_iconst (pc := 118) (v := nI 0) dX11_isAllowed_118 (by decide) ?_
        refine mo_ir (pc := 119) dX11_isAllowed_119 rfl (ab_nb (Or.inl rfl)) ?_
        first | (rw [FisAllowed]; (try dsimp only); rw [if_neg (c_1 _ (List.mem_of_getElem? (i := 0) rfl)), if_neg (c_1 _ (List.mem_of_getElem? (i := 1) rfl)), if_neg (c_1 _ (List.mem_of_getElem? (i := 2) rfl)), if_neg (c_1 _ (List.mem_of_getElem? (i := 3) rfl)), if_neg c_106, if_neg c_111]; done) | (rw [FisAllowed]; (try dsimp only); rw [if_neg (c_1 _ (List.mem_of_getElem? (i := 0) rfl)), if_neg (c_1 _ (List.mem_of_getElem? (i := 1) rfl)), if_neg (c_1 _ (List.mem_of_getElem? (i := 2) rfl)), if_neg (c_1 _ (List.mem_of_getElem? (i := 3) rfl)), if_neg c_106, if_neg c_111]; rfl)
      · refine ab_iconst (pc := 114) (v := nI 1) dX11_isAllowed_114 (by decide) ?_
        refine ab_goto (pc := 115) (tgt := 119) dX11_isAllowed_115 (by decide) ?_
        refine mo_ir (pc := 119) dX11_isAllowed_119 rfl (ab_nb (Or.inr rfl)) ?_
        first | (rw [FisAllowed]; (try dsimp only); rw [if_neg (c_1 _ (List.mem_of_getElem? (i := 0) rfl)), if_neg (c_1 _ (List.mem_of_getElem? (i := 1) rfl)), if_neg (c_1 _ (List.mem_of_getElem? (i := 2) rfl)), if_neg (c_1 _ (List.mem_of_getElem? (i := 3) rfl)), if_neg c_106, if_pos c_111]; done) | (rw [FisAllowed]; (try dsimp only); rw [if_neg (c_1 _ (List.mem_of_getElem? (i := 0) rfl)), if_neg (c_1 _ (List.mem_of_getElem? (i := 1) rfl)), if_neg (c_1 _ (List.mem_of_getElem? (i := 2) rfl)), if_neg (c_1 _ (List.mem_of_getElem? (i := 3) rfl)), if_neg c_106, if_pos c_111]; rfl)
def Fthrown  (m : mD) : Int32 :=
  (m 0 0)
set_option maxRecDepth 100000 in
set_option maxHeartbeats 4000000 in
theorem c_thrown {tt : Prop}  (m : mD) (hD : True) : ab_Met mX11_thrown 0 0 0 tt [.ref (0)] (sM m) (mQi (Fthrown  m, m)) := by
  refine ab_Met.of rfl (Nat.le_of_ble_eq_true rfl) ?_
  show mV mX11_thrown 0 tt (mQi (Fthrown  m, m)) 0 [some (.ref (0))] [] m
  refine ab_aload_n (pc := 0) dX11_thrown_0 rfl rfl ?_
  refine mo_gi (pc := 1) dX11_thrown_1 fl_X11_1 rfl ?_
  refine mo_ir (pc := 4) dX11_thrown_4 rfl rfl ?_
  first | rfl | (rw [Fthrown]; done) | (rw [Fthrown]; rfl)
def FcrashesNow  (m : mD) : mD :=
  let m1 := ab_up m 0 23 (nI (0))
  let m2 := ab_up m1 0 24 (nI (0))
  let m3 := ab_up m2 0 27 (nI (0))
  let m4 := ab_up m3 2 1 (nI (0))
  let m5 := ab_up m4 0 26 (nI (0))
  let m6 := ab_up m5 5 1 (-1)
  let m7 := ab_up m6 0 32 (nI (0))
  let m8 := ab_up m7 0 30 ((m7 0 30) + (nI (1)))
  m8
set_option maxRecDepth 100000 in
set_option maxHeartbeats 4000000 in
theorem c_crashesNow {tt : Prop}  (m : mD) (hD : True) : ab_Met mX11_crashesNow 0 0 0 tt [.ref (0)] (sM m) (mQv (FcrashesNow  m)) := by
  refine ab_Met.of rfl (Nat.le_of_ble_eq_true rfl) ?_
  show mV mX11_crashesNow 0 tt (mQv (FcrashesNow  m)) 0 [some (.ref (0))] [] m
  refine ab_aload_n (pc := 0) dX11_crashesNow_0 rfl rfl ?_
  refine ab_iconst (pc := 1) (v := nI 0) dX11_crashesNow_1 (by decide) ?_
  refine mo_pi (pc := 2) dX11_crashesNow_2 fl_X11_15 rfl rfl (ab_ok_b (Or.inl rfl)) ?_
  refine ab_aload_n (pc := 5) dX11_crashesNow_5 rfl rfl ?_
  refine ab_iconst (pc := 6) (v := nI 0) dX11_crashesNow_6 (by decide) ?_
  refine mo_pi (pc := 7) dX11_crashesNow_7 fl_X11_119 rfl rfl (ab_ok_b (Or.inl rfl)) ?_
  refine ab_aload_n (pc := 10) dX11_crashesNow_10 rfl rfl ?_
  refine ab_iconst (pc := 11) (v := nI 0) dX11_crashesNow_11 (by decide) ?_
  refine mo_pi (pc := 12) dX11_crashesNow_12 fl_X11_122 rfl rfl (ab_ok_i _) ?_
  refine ab_aload_n (pc := 15) dX11_crashesNow_15 rfl rfl ?_
  refine mo_gr (pc := 16) dX11_crashesNow_16 fl_X11_38 rfl rfl ?_
  refine ab_iconst (pc := 19) (v := nI 1) dX11_crashesNow_19 (by decide) ?_
  refine ab_iconst (pc := 20) (v := nI 0) dX11_crashesNow_20 (by decide) ?_
  refine mo_ist (pc := 21) dX11_crashesNow_21 (by decide) rfl (by decide) (by decide) ?_
  refine ab_aload_n (pc := 22) dX11_crashesNow_22 rfl rfl ?_
  refine ab_iconst (pc := 23) (v := nI 0) dX11_crashesNow_23 (by decide) ?_
  refine mo_pi (pc := 24) dX11_crashesNow_24 fl_X11_125 rfl rfl (ab_ok_i _) ?_
  refine ab_aload_n (pc := 27) dX11_crashesNow_27 rfl rfl ?_
  refine mo_gr (pc := 28) dX11_crashesNow_28 fl_X11_54 rfl rfl ?_
  refine ab_iconst (pc := 31) (v := nI 1) dX11_crashesNow_31 (by decide) ?_
  refine ab_iconst (pc := 32) (v := -1) dX11_crashesNow_32 (by decide) ?_
  refine mo_ist (pc := 33) dX11_crashesNow_33 (by decide) rfl (by decide) (by decide) ?_
  refine ab_aload_n (pc := 34) dX11_crashesNow_34 rfl rfl ?_
  refine ab_iconst (pc := 35) (v := nI 0) dX11_crashesNow_35 (by decide) ?_
  refine mo_pi (pc := 36) dX11_crashesNow_36 fl_X11_128 rfl rfl (ab_ok_i _) ?_
  refine ab_aload_n (pc := 39) dX11_crashesNow_39 rfl rfl ?_
  refine ab_dup (pc := 40) dX11_crashesNow_40 rfl ?_
  refine mo_gi (pc := 41) dX11_crashesNow_41 fl_X11_131 rfl ?_
  refine ab_iconst (pc := 44) (v := nI 1) dX11_crashesNow_44 (by decide) ?_
  refine ab_iadd (pc := 45) dX11_crashesNow_45 ?_
  refine mo_pi (pc := 46) dX11_crashesNow_46 fl_X11_131 rfl rfl (ab_ok_i _) ?_
  refine mo_vr (pc := 49) dX11_crashesNow_49 rfl ?_
  first | rfl | (rw [FcrashesNow]; done) | (rw [FcrashesNow]; rfl)
def Fholds (a : Int32) (b : Int32) (c : Int32) (m : mD) : mD :=
  let m1 := ab_up m 0 43 (nI (1))
  let m2 := ab_up m1 0 44 (a)
  let m3 := ab_up m2 0 45 (b)
  let m4 := ab_up m3 0 46 (c)
  m4
set_option maxRecDepth 100000 in
set_option maxHeartbeats 4000000 in
theorem c_holds {tt : Prop} (a : Int32) (b : Int32) (c : Int32) (m : mD) (hD : True) : ab_Met mX11_holds 0 0 0 tt [.ref (0), .int (a), .int (b), .int (c)] (sM m) (mQv (Fholds a b c m)) := by
  refine ab_Met.of rfl (Nat.le_of_ble_eq_true rfl) ?_
  show mV mX11_holds 0 tt (mQv (Fholds a b c m)) 0 [some (.ref (0)), some (.int (a)), some (.int (b)), some (.int (c))] [] m
  refine ab_aload_n (pc := 0) dX11_holds_0 rfl rfl ?_
  refine ab_iconst (pc := 1) (v := nI 1) dX11_holds_1 (by decide) ?_
  refine mo_pi (pc := 2) dX11_holds_2 fl_X11_225 rfl rfl (ab_ok_b (Or.inr rfl)) ?_
  refine ab_aload_n (pc := 5) dX11_holds_5 rfl rfl ?_
  refine ab_iload_n (pc := 6) dX11_holds_6 rfl rfl ?_
  refine mo_pi (pc := 7) dX11_holds_7 fl_X11_248 rfl rfl (ab_ok_i _) ?_
  refine ab_aload_n (pc := 10) dX11_holds_10 rfl rfl ?_
  refine ab_iload_n (pc := 11) dX11_holds_11 rfl rfl ?_
  refine mo_pi (pc := 12) dX11_holds_12 fl_X11_251 rfl rfl (ab_ok_i _) ?_
  refine ab_aload_n (pc := 15) dX11_holds_15 rfl rfl ?_
  refine ab_iload_n (pc := 16) dX11_holds_16 rfl rfl ?_
  refine mo_pi (pc := 17) dX11_holds_17 fl_X11_254 rfl rfl (ab_ok_i _) ?_
  refine mo_vr (pc := 20) dX11_holds_20 rfl ?_
  first | rfl | (rw [Fholds]; done) | (rw [Fholds]; rfl)
def Fdrafts_3 : Nat → Int32 → Int32 → Int32 → Nat → mD → mD
  | 0, _, _, _, _, m => m
  | n + 1, a, b, c, a4, m =>
    if 13 ≤ a4 then
      let m2 := ab_up m 3 1 (a)
      let m3 := ab_up m2 3 2 (b)
      let m4 := ab_up m3 3 3 (c)
      m4
    else
      let m6 := ab_up m 3 a4 (nI (0))
      Fdrafts_3 n a b c (a4 + 1) m6
def Ddrafts_3 : Nat → Int32 → Int32 → Int32 → Nat → mD → Prop
  | 0, _, _, _, _, _ => False
  | n + 1, a, b, c, a4, m =>
    (a4 < 2147483648) ∧
    ((13 ≤ a4) →
      True) ∧
    (¬ (13 ≤ a4) →
      (a4 < 13) ∧
      let m6 := ab_up m 3 a4 (nI (0))
      Ddrafts_3 n a b c (a4 + 1) m6)
set_option maxRecDepth 100000 in
set_option maxHeartbeats 4000000 in
theorem w_drafts_3 {tt : Prop} : ∀ (n : Nat) (a : Int32) (b : Int32) (c : Int32) (a4 : Nat) (m : mD) (hD : Ddrafts_3 n a b c a4 m), mV mX11_drafts 0 tt (mQv (Fdrafts_3 n a b c a4 m)) 3 [some (.ref (0)), some (.int (a)), some (.int (b)), some (.int (c)), some (.int (nI (a4)))] [] m := by
  intro n
  induction n with
  | zero => intros; rename_i hD; exact hD.elim
  | succ n ih =>
    intro a b c a4 m hD
    refine ab_iload (pc := 3) dX11_drafts_3 rfl ?_
    refine ab_bipush (pc := 5) (v := nI 13) dX11_drafts_5 (by decide) ?_
    obtain ⟨o1, hD⟩ := hD
    refine ab_icmp_geN (pc := 7) (tgt := 24) dX11_drafts_7 (by decide) o1 (by decide) (fun c_7 => ?_) (fun c_7 => ?_)
    · refine ab_aload_n (pc := 24) dX11_drafts_24 rfl rfl ?_
      refine mo_gr (pc := 25) dX11_drafts_25 fl_X11_7 rfl rfl ?_
      refine ab_iconst (pc := 28) (v := nI 1) dX11_drafts_28 (by decide) ?_
      refine ab_iload_n (pc := 29) dX11_drafts_29 rfl rfl ?_
      refine mo_ist (pc := 30) dX11_drafts_30 (by decide) rfl (by decide) (by decide) ?_
      refine ab_aload_n (pc := 31) dX11_drafts_31 rfl rfl ?_
      refine mo_gr (pc := 32) dX11_drafts_32 fl_X11_7 rfl rfl ?_
      refine ab_iconst (pc := 35) (v := nI 2) dX11_drafts_35 (by decide) ?_
      refine ab_iload_n (pc := 36) dX11_drafts_36 rfl rfl ?_
      refine mo_ist (pc := 37) dX11_drafts_37 (by decide) rfl (by decide) (by decide) ?_
      refine ab_aload_n (pc := 38) dX11_drafts_38 rfl rfl ?_
      refine mo_gr (pc := 39) dX11_drafts_39 fl_X11_7 rfl rfl ?_
      refine ab_iconst (pc := 42) (v := nI 3) dX11_drafts_42 (by decide) ?_
      refine ab_iload_n (pc := 43) dX11_drafts_43 rfl rfl ?_
      refine mo_ist (pc := 44) dX11_drafts_44 (by decide) rfl (by decide) (by decide) ?_
      refine mo_vr (pc := 45) dX11_drafts_45 rfl ?_
      first | (rw [Fdrafts_3]; (try dsimp only); rw [if_pos c_7]; done) | (rw [Fdrafts_3]; (try dsimp only); rw [if_pos c_7]; rfl)
    · replace hD := hD.2 c_7
      refine ab_aload_n (pc := 10) dX11_drafts_10 rfl rfl ?_
      refine mo_gr (pc := 11) dX11_drafts_11 fl_X11_7 rfl rfl ?_
      refine ab_iload (pc := 14) dX11_drafts_14 rfl ?_
      refine ab_iconst (pc := 16) (v := nI 0) dX11_drafts_16 (by decide) ?_
      obtain ⟨o5, hD⟩ := hD
      refine mo_ist (pc := 17) dX11_drafts_17 (by decide) rfl o5 (by decide) ?_
      refine ab_iinc (pc := 18) dX11_drafts_18 rfl (ab_inc _) (Nat.le_of_ble_eq_true rfl) rfl ?_
      refine ab_goto (pc := 21) (tgt := 3) dX11_drafts_21 (by decide) ?_
      refine mo_eqv ?_ (ih _ _ _ _ _ hD)
      first | (rw [Fdrafts_3]; (try dsimp only); rw [if_neg c_7]; done) | (rw [Fdrafts_3]; (try dsimp only); rw [if_neg c_7]; rfl)
def Fdrafts (a : Int32) (b : Int32) (c : Int32) (m : mD) : mD :=
  Fdrafts_3 14 a b c 0 m
def Ddrafts (a : Int32) (b : Int32) (c : Int32) (m : mD) : Prop :=
  Ddrafts_3 14 a b c 0 m
set_option maxRecDepth 100000 in
set_option maxHeartbeats 4000000 in
theorem c_drafts {tt : Prop} (a : Int32) (b : Int32) (c : Int32) (m : mD) (hD : Ddrafts a b c m) : ab_Met mX11_drafts 0 0 0 tt [.ref (0), .int (a), .int (b), .int (c)] (sM m) (mQv (Fdrafts a b c m)) := by
  refine ab_Met.of rfl (Nat.le_of_ble_eq_true rfl) ?_
  show mV mX11_drafts 0 tt (mQv (Fdrafts a b c m)) 0 [some (.ref (0)), some (.int (a)), some (.int (b)), some (.int (c)), none] [] m
  refine ab_iconst (pc := 0) (v := nI 0) dX11_drafts_0 (by decide) ?_
  refine ab_istore (pc := 1) dX11_drafts_1 (Nat.le_of_ble_eq_true rfl) rfl ?_
  refine mo_eqv ?_ (w_drafts_3 14 _ _ _ _ _ hD)
  first | rfl | (rw [Fdrafts]; done) | (rw [Fdrafts]; rfl)
def Flives (p : Nat) (m : mD) : Int32 :=
  if p = 1 then
    (m 0 23)
  else
    if (FisUser (nI (p))) = 0 then
      (nI (1))
    else
      if (m 7 p) = (nI (1)) then
        (nI (1))
      else
        (nI (0))
def Dlives (p : Nat) (m : mD) : Prop :=
  (p < 2147483648) ∧
  ((p = 1) →
    ((m 0 23) = 0 ∨ (m 0 23) = 1) ∧
    True) ∧
  (¬ (p = 1) →
    (((FisUser (nI (p))) = 0) →
      True) ∧
    (¬ ((FisUser (nI (p))) = 0) →
      (p < 12) ∧
      True))
set_option maxRecDepth 100000 in
set_option maxHeartbeats 4000000 in
theorem c_lives {tt : Prop} (p : Nat) (m : mD) (hD : Dlives p m) : ab_Met mX11_lives 1 0 0 tt [.ref (0), .int (nI (p))] (sM m) (mQi (Flives p m, m)) := by
  refine ab_Met.of rfl (Nat.le_of_ble_eq_true rfl) ?_
  show mV mX11_lives 1 tt (mQi (Flives p m, m)) 0 [some (.ref (0)), some (.int (nI (p)))] [] m
  refine ab_iload_n (pc := 0) dX11_lives_0 rfl rfl ?_
  refine ab_iconst (pc := 1) (v := nI 1) dX11_lives_1 (by decide) ?_
  obtain ⟨o1, hD⟩ := hD
  refine ab_icmp_neN (pc := 2) (tgt := 12) dX11_lives_2 (by decide) o1 (by decide) (fun c_2 => ?_) (fun c_2 => ?_)
  · replace hD := hD.2 c_2
    refine ab_iload_n (pc := 12) dX11_lives_12 rfl rfl ?_
    refine mo_invs (N := mX11_isUser) (pc := 13) (d' := 0) (av := [_]) dX11_lives_13 ml_X11_11 fs_X11_isUser (Nat.le_of_ble_eq_true rfl) (by decide) (c_isUser _ _ trivial) ?_
    refine ab_if_eq (pc := 16) (tgt := 29) dX11_lives_16 (by decide) (fun c_16 => ?_) (fun c_16 => ?_)
    · refine ab_iconst (pc := 29) (v := nI 1) dX11_lives_29 (by decide) ?_
      refine ab_goto (pc := 30) (tgt := 34) dX11_lives_30 (by decide) ?_
      refine mo_ir (pc := 34) dX11_lives_34 rfl (ab_nb (Or.inr rfl)) ?_
      first | (rw [Flives]; (try dsimp only); rw [if_neg c_2, if_pos c_16]; done) | (rw [Flives]; (try dsimp only); rw [if_neg c_2, if_pos c_16]; rfl)
    · replace hD := hD.2 c_16
      refine ab_aload_n (pc := 19) dX11_lives_19 rfl rfl ?_
      refine mo_gr (pc := 20) dX11_lives_20 fl_X11_19 rfl rfl ?_
      refine ab_iload_n (pc := 23) dX11_lives_23 rfl rfl ?_
      obtain ⟨o2, hD⟩ := hD
      refine mo_ild (pc := 24) dX11_lives_24 (by decide) rfl o2 (by decide) ?_
      refine ab_iconst (pc := 25) (v := nI 1) dX11_lives_25 (by decide) ?_
      refine ab_icmp_ne (pc := 26) (tgt := 33) dX11_lives_26 (by decide) (fun c_26 => ?_) (fun c_26 => ?_)
      · refine ab_iconst (pc := 33) (v := nI 0) dX11_lives_33 (by decide) ?_
        refine mo_ir (pc := 34) dX11_lives_34 rfl (ab_nb (Or.inl rfl)) ?_
        first | (rw [Flives]; (try dsimp only); rw [if_neg c_2, if_neg c_16, if_neg c_26]; done) | (rw [Flives]; (try dsimp only); rw [if_neg c_2, if_neg c_16, if_neg c_26]; rfl)
      · refine ab_iconst (pc := 29) (v := nI 1) dX11_lives_29 (by decide) ?_
        refine ab_goto (pc := 30) (tgt := 34) dX11_lives_30 (by decide) ?_
        refine mo_ir (pc := 34) dX11_lives_34 rfl (ab_nb (Or.inr rfl)) ?_
        first | (rw [Flives]; (try dsimp only); rw [if_neg c_2, if_neg c_16, if_pos c_26]; done) | (rw [Flives]; (try dsimp only); rw [if_neg c_2, if_neg c_16, if_pos c_26]; rfl)
  · replace hD := hD.1 c_2
    refine ab_aload_n (pc := 5) dX11_lives_5 rfl rfl ?_
    refine mo_gi (pc := 6) dX11_lives_6 fl_X11_15 rfl ?_
    refine ab_goto (pc := 9) (tgt := 34) dX11_lives_9 (by decide) ?_
    obtain ⟨o3, hD⟩ := hD
    refine mo_ir (pc := 34) dX11_lives_34 rfl (ab_nb o3) ?_
    first | (rw [Flives]; (try dsimp only); rw [if_pos c_2]; done) | (rw [Flives]; (try dsimp only); rw [if_pos c_2]; rfl)
def Fsend_94 : Nat → Nat → Nat → Int32 → Nat → Nat → mD → Int32 × mD
  | 0, _, _, _, _, _, m => (0, m)
  | n + 1, f, t, b, a4, a5, m =>
    if 13 ≤ a5 then
      let m15 := ab_up m 2 t (nI (((m 2 t).toNatClampNeg) + 1))
      let m16 := ab_up m15 0 7 ((m15 0 7) + (nI (1)))
      ((nI (0)), m16)
    else
      let m19 := ab_up m 1 (a4 + a5) (m 3 a5)
      Fsend_94 n f t b a4 (a5 + 1) m19
def Dsend_94 : Nat → Nat → Nat → Int32 → Nat → Nat → mD → Prop
  | 0, _, _, _, _, _, _ => False
  | n + 1, f, t, b, a4, a5, m =>
    (a5 < 2147483648) ∧
    ((13 ≤ a5) →
      (t < 12) ∧
      (¬ (m 2 t) < 0) ∧
      (t < 12) ∧
      let m15 := ab_up m 2 t (nI (((m 2 t).toNatClampNeg) + 1))
      let m16 := ab_up m15 0 7 ((m15 0 7) + (nI (1)))
      True) ∧
    (¬ (13 ≤ a5) →
      (a5 < 13) ∧
      ((a4 + a5) < 1872) ∧
      let m19 := ab_up m 1 (a4 + a5) (m 3 a5)
      Dsend_94 n f t b a4 (a5 + 1) m19)
set_option maxRecDepth 100000 in
set_option maxHeartbeats 4000000 in
theorem w_send_94 {tt : Prop} : ∀ (n : Nat) (f : Nat) (t : Nat) (b : Int32) (a4 : Nat) (a5 : Nat) (m : mD) (hD : Dsend_94 n f t b a4 a5 m), mV mX11_send 2 tt (mQi (Fsend_94 n f t b a4 a5 m)) 94 [some (.ref (0)), none, some (.int (nI (t))), none, some (.int (nI (a4))), some (.int (nI (a5)))] [] m := by
  intro n
  induction n with
  | zero => intros; rename_i hD; exact hD.elim
  | succ n ih =>
    intro f t b a4 a5 m hD
    refine ab_iload (pc := 94) dX11_send_94 rfl ?_
    refine ab_bipush (pc := 96) (v := nI 13) dX11_send_96 (by decide) ?_
    obtain ⟨o11, hD⟩ := hD
    refine ab_icmp_geN (pc := 98) (tgt := 124) dX11_send_98 (by decide) o11 (by decide) (fun c_98 => ?_) (fun c_98 => ?_)
    · replace hD := hD.1 c_98
      refine ab_aload_n (pc := 124) dX11_send_124 rfl rfl ?_
      refine mo_gr (pc := 125) dX11_send_125 fl_X11_38 rfl rfl ?_
      refine ab_iload_n (pc := 128) dX11_send_128 rfl rfl ?_
      refine ab_dup2 (pc := 129) dX11_send_129 rfl rfl ?_
      obtain ⟨o12, hD⟩ := hD
      refine mo_ild (pc := 130) dX11_send_130 (by decide) rfl o12 (by decide) ?_
      obtain ⟨o13, hD⟩ := hD
      refine ab_nat1 (ab_nat o13) ?_
      refine ab_iconst (pc := 131) (v := nI 1) dX11_send_131 (by decide) ?_
      refine ab_iaddN (pc := 132) dX11_send_132 ?_
      obtain ⟨o14, hD⟩ := hD
      refine mo_ist (pc := 133) dX11_send_133 (by decide) rfl o14 (by decide) ?_
      refine ab_aload_n (pc := 134) dX11_send_134 rfl rfl ?_
      refine ab_dup (pc := 135) dX11_send_135 rfl ?_
      refine mo_gi (pc := 136) dX11_send_136 fl_X11_44 rfl ?_
      refine ab_iconst (pc := 139) (v := nI 1) dX11_send_139 (by decide) ?_
      refine ab_iadd (pc := 140) dX11_send_140 ?_
      refine mo_pi (pc := 141) dX11_send_141 fl_X11_44 rfl rfl (ab_ok_i _) ?_
      refine ab_iconst (pc := 144) (v := nI 0) dX11_send_144 (by decide) ?_
      refine mo_ir (pc := 145) dX11_send_145 rfl rfl ?_
      first | (rw [Fsend_94]; (try dsimp only); rw [if_pos c_98]; done) | (rw [Fsend_94]; (try dsimp only); rw [if_pos c_98]; rfl)
    · replace hD := hD.2 c_98
      refine ab_aload_n (pc := 101) dX11_send_101 rfl rfl ?_
      refine mo_gr (pc := 102) dX11_send_102 fl_X11_41 rfl rfl ?_
      refine ab_iload (pc := 105) dX11_send_105 rfl ?_
      refine ab_iload (pc := 107) dX11_send_107 rfl ?_
      refine ab_iaddN (pc := 109) dX11_send_109 ?_
      refine ab_aload_n (pc := 110) dX11_send_110 rfl rfl ?_
      refine mo_gr (pc := 111) dX11_send_111 fl_X11_7 rfl rfl ?_
      refine ab_iload (pc := 114) dX11_send_114 rfl ?_
      obtain ⟨o17, hD⟩ := hD
      refine mo_ild (pc := 116) dX11_send_116 (by decide) rfl o17 (by decide) ?_
      obtain ⟨o18, hD⟩ := hD
      refine mo_ist (pc := 117) dX11_send_117 (by decide) rfl o18 (by decide) ?_
      refine ab_iinc (pc := 118) dX11_send_118 rfl (ab_inc _) (Nat.le_of_ble_eq_true rfl) rfl ?_
      refine ab_goto (pc := 121) (tgt := 94) dX11_send_121 (by decide) ?_
      refine ab_wk (ls2 := [some _, none, some _, none, some _, some _]) (And.intro rfl (And.intro rfl (And.intro rfl (And.intro rfl trivial)))) ?_
      refine mo_eqi ?_ (ih _ _ _ _ _ _ hD)
      first | (rw [Fsend_94]; (try dsimp only); rw [if_neg c_98]; done) | (rw [Fsend_94]; (try dsimp only); rw [if_neg c_98]; rfl)
def Fsend_55 (f : Nat) (t : Nat) (b : Int32) (m : mD) : Int32 × mD :=
  if ((m 2 t).toNatClampNeg) = 12 then
    ((nI (3)), m)
  else
    let m10 := ab_up m 3 0 (nI (f))
    Fsend_94 14 f t b (13 * ((12 * t) + ((m 2 t).toNatClampNeg))) 0 m10
def Dsend_55 (f : Nat) (t : Nat) (b : Int32) (m : mD) : Prop :=
  (t < 12) ∧
  (¬ (m 2 t) < 0) ∧
  (((m 2 t).toNatClampNeg) < 2147483648) ∧
  ((((m 2 t).toNatClampNeg) = 12) →
    True) ∧
  (¬ (((m 2 t).toNatClampNeg) = 12) →
    (t < 12) ∧
    (¬ (m 2 t) < 0) ∧
    let m10 := ab_up m 3 0 (nI (f))
    Dsend_94 14 f t b (13 * ((12 * t) + ((m 2 t).toNatClampNeg))) 0 m10)
set_option maxRecDepth 100000 in
set_option maxHeartbeats 4000000 in
theorem w_send_55 {tt : Prop} (f : Nat) (t : Nat) (b : Int32) (m : mD) (hD : Dsend_55 f t b m) : mV mX11_send 2 tt (mQi (Fsend_55 f t b m)) 55 [some (.ref (0)), some (.int (nI (f))), some (.int (nI (t))), none, none, none] [] m := by
  refine ab_aload_n (pc := 55) dX11_send_55 rfl rfl ?_
  refine mo_gr (pc := 56) dX11_send_56 fl_X11_38 rfl rfl ?_
  refine ab_iload_n (pc := 59) dX11_send_59 rfl rfl ?_
  obtain ⟨o5, hD⟩ := hD
  refine mo_ild (pc := 60) dX11_send_60 (by decide) rfl o5 (by decide) ?_
  obtain ⟨o6, hD⟩ := hD
  refine ab_nat1 (ab_nat o6) ?_
  refine ab_bipush (pc := 61) (v := nI 12) dX11_send_61 (by decide) ?_
  obtain ⟨o7, hD⟩ := hD
  refine ab_icmp_neN (pc := 63) (tgt := 68) dX11_send_63 (by decide) o7 (by decide) (fun c_63 => ?_) (fun c_63 => ?_)
  · replace hD := hD.2 c_63
    refine ab_bipush (pc := 68) (v := nI 13) dX11_send_68 (by decide) ?_
    refine ab_bipush (pc := 70) (v := nI 12) dX11_send_70 (by decide) ?_
    refine ab_iload_n (pc := 72) dX11_send_72 rfl rfl ?_
    refine ab_imulN (pc := 73) dX11_send_73 ?_
    refine ab_aload_n (pc := 74) dX11_send_74 rfl rfl ?_
    refine mo_gr (pc := 75) dX11_send_75 fl_X11_38 rfl rfl ?_
    refine ab_iload_n (pc := 78) dX11_send_78 rfl rfl ?_
    obtain ⟨o8, hD⟩ := hD
    refine mo_ild (pc := 79) dX11_send_79 (by decide) rfl o8 (by decide) ?_
    obtain ⟨o9, hD⟩ := hD
    refine ab_nat1 (ab_nat o9) ?_
    refine ab_iaddN (pc := 80) dX11_send_80 ?_
    refine ab_imulN (pc := 81) dX11_send_81 ?_
    refine ab_istore (pc := 82) dX11_send_82 (Nat.le_of_ble_eq_true rfl) rfl ?_
    refine ab_aload_n (pc := 84) dX11_send_84 rfl rfl ?_
    refine mo_gr (pc := 85) dX11_send_85 fl_X11_7 rfl rfl ?_
    refine ab_iconst (pc := 88) (v := nI 0) dX11_send_88 (by decide) ?_
    refine ab_iload_n (pc := 89) dX11_send_89 rfl rfl ?_
    refine mo_ist (pc := 90) dX11_send_90 (by decide) rfl (by decide) (by decide) ?_
    refine ab_iconst (pc := 91) (v := nI 0) dX11_send_91 (by decide) ?_
    refine ab_istore (pc := 92) dX11_send_92 (Nat.le_of_ble_eq_true rfl) rfl ?_
    refine ab_wk (ls2 := [some _, none, some _, none, some _, some _]) (And.intro rfl (And.intro rfl (And.intro rfl (And.intro rfl trivial)))) ?_
    refine mo_eqi ?_ (w_send_94 14 _ _ _ _ _ _ hD)
    first | (rw [Fsend_55]; (try dsimp only); rw [if_neg c_63]; done) | (rw [Fsend_55]; (try dsimp only); rw [if_neg c_63]; rfl)
  · refine ab_iconst (pc := 66) (v := nI 3) dX11_send_66 (by decide) ?_
    refine mo_ir (pc := 67) dX11_send_67 rfl rfl ?_
    first | (rw [Fsend_55]; (try dsimp only); rw [if_pos c_63]; done) | (rw [Fsend_55]; (try dsimp only); rw [if_pos c_63]; rfl)
def Fsend (f : Nat) (t : Nat) (b : Int32) (m : mD) : Int32 × mD :=
  if (FisAllowed (nI (f)) (nI (t))) = 0 then
    let m4 := ab_up m 0 6 ((m 0 6) + (nI (1)))
    ((nI (1)), m4)
  else
    if (Flives t m) = 0 then
      ((nI (2)), m)
    else
      if (b) = 0 then
        Fsend_55 f t b m
      else
        if f = 2 then
          if t = 1 then
            if (m 0 34) = (m 0 25) then
              Fsend_55 f t b m
            else
              ((nI (2)), m)
          else
            Fsend_55 f t b m
        else
          Fsend_55 f t b m
def Dsend (f : Nat) (t : Nat) (b : Int32) (m : mD) : Prop :=
  (((FisAllowed (nI (f)) (nI (t))) = 0) →
    True) ∧
  (¬ ((FisAllowed (nI (f)) (nI (t))) = 0) →
    (Dlives t m) ∧
    (((Flives t m) = 0) →
      True) ∧
    (¬ ((Flives t m) = 0) →
      (((b) = 0) →
        Dsend_55 f t b m) ∧
      (¬ ((b) = 0) →
        (f < 2147483648) ∧
        ((f = 2) →
          (t < 2147483648) ∧
          ((t = 1) →
            (((m 0 34) = (m 0 25)) →
              Dsend_55 f t b m) ∧
            (¬ ((m 0 34) = (m 0 25)) →
              True)) ∧
          (¬ (t = 1) →
            Dsend_55 f t b m)) ∧
        (¬ (f = 2) →
          Dsend_55 f t b m))))
set_option maxRecDepth 100000 in
set_option maxHeartbeats 4000000 in
theorem c_send {tt : Prop} (f : Nat) (t : Nat) (b : Int32) (m : mD) (hD : Dsend f t b m) : ab_Met mX11_send 2 0 0 tt [.ref (0), .int (nI (f)), .int (nI (t)), .int (b)] (sM m) (mQi (Fsend f t b m)) := by
  refine ab_Met.of rfl (Nat.le_of_ble_eq_true rfl) ?_
  show mV mX11_send 2 tt (mQi (Fsend f t b m)) 0 [some (.ref (0)), some (.int (nI (f))), some (.int (nI (t))), some (.int (b)), none, none] [] m
  refine ab_iload_n (pc := 0) dX11_send_0 rfl rfl ?_
  refine ab_iload_n (pc := 1) dX11_send_1 rfl rfl ?_
  refine mo_invs (N := mX11_isAllowed) (pc := 2) (d' := 1) (av := [_, _]) dX11_send_2 ml_X11_22 fs_X11_isAllowed (Nat.le_of_ble_eq_true rfl) (by decide) (c_isAllowed _ _ _ trivial) ?_
  refine ab_if_ne (pc := 5) (tgt := 20) dX11_send_5 (by decide) (fun c_5 => ?_) (fun c_5 => ?_)
  · replace hD := hD.2 c_5
    refine ab_aload_n (pc := 20) dX11_send_20 rfl rfl ?_
    refine ab_iload_n (pc := 21) dX11_send_21 rfl rfl ?_
    obtain ⟨o1, hD⟩ := hD
    refine mo_invr (N := mX11_lives) (pc := 22) (d' := 1) (av := [_]) dX11_send_22 ml_X11_29 fv_X11_lives (Nat.le_of_ble_eq_true rfl) (by decide) (c_lives _ _ o1) ?_
    refine ab_if_eq (pc := 25) (tgt := 53) dX11_send_25 (by decide) (fun c_25 => ?_) (fun c_25 => ?_)
    · refine ab_iconst (pc := 53) (v := nI 2) dX11_send_53 (by decide) ?_
      refine mo_ir (pc := 54) dX11_send_54 rfl rfl ?_
      first | (rw [Fsend]; (try dsimp only); rw [if_neg c_5, if_pos c_25]; done) | (rw [Fsend]; (try dsimp only); rw [if_neg c_5, if_pos c_25]; rfl)
    · replace hD := hD.2 c_25
      refine ab_iload_n (pc := 28) dX11_send_28 rfl rfl ?_
      refine ab_if_eq (pc := 29) (tgt := 55) dX11_send_29 (by decide) (fun c_29 => ?_) (fun c_29 => ?_)
      · replace hD := hD.1 c_29
        refine ab_wk (ls2 := [some _, some _, some _, none, none, none]) (And.intro rfl (And.intro rfl (And.intro rfl trivial))) ?_
        refine mo_eqi ?_ (w_send_55 _ _ _ _ hD)
        first | (rw [Fsend]; (try dsimp only); rw [if_neg c_5, if_neg c_25, if_pos c_29]; done) | (rw [Fsend]; (try dsimp only); rw [if_neg c_5, if_neg c_25, if_pos c_29]; rfl)
      · replace hD := hD.2 c_29
        refine ab_iload_n (pc := 32) dX11_send_32 rfl rfl ?_
        refine ab_iconst (pc := 33) (v := nI 2) dX11_send_33 (by decide) ?_
        obtain ⟨o2, hD⟩ := hD
        refine ab_icmp_neN (pc := 34) (tgt := 55) dX11_send_34 (by decide) o2 (by decide) (fun c_34 => ?_) (fun c_34 => ?_)
        · replace hD := hD.2 c_34
          refine ab_wk (ls2 := [some _, some _, some _, none, none, none]) (And.intro rfl (And.intro rfl (And.intro rfl trivial))) ?_
          refine mo_eqi ?_ (w_send_55 _ _ _ _ hD)
          first | (rw [Fsend]; (try dsimp only); rw [if_neg c_5, if_neg c_25, if_neg c_29, if_neg c_34]; done) | (rw [Fsend]; (try dsimp only); rw [if_neg c_5, if_neg c_25, if_neg c_29, if_neg c_34]; rfl)
        · replace hD := hD.1 c_34
          refine ab_iload_n (pc := 37) dX11_send_37 rfl rfl ?_
          refine ab_iconst (pc := 38) (v := nI 1) dX11_send_38 (by decide) ?_
          obtain ⟨o3, hD⟩ := hD
          refine ab_icmp_neN (pc := 39) (tgt := 55) dX11_send_39 (by decide) o3 (by decide) (fun c_39 => ?_) (fun c_39 => ?_)
          · replace hD := hD.2 c_39
            refine ab_wk (ls2 := [some _, some _, some _, none, none, none]) (And.intro rfl (And.intro rfl (And.intro rfl trivial))) ?_
            refine mo_eqi ?_ (w_send_55 _ _ _ _ hD)
            first | (rw [Fsend]; (try dsimp only); rw [if_neg c_5, if_neg c_25, if_neg c_29, if_pos c_34, if_neg c_39]; done) | (rw [Fsend]; (try dsimp only); rw [if_neg c_5, if_neg c_25, if_neg c_29, if_pos c_34, if_neg c_39]; rfl)
          · replace hD := hD.1 c_39
            refine ab_aload_n (pc := 42) dX11_send_42 rfl rfl ?_
            refine mo_gi (pc := 43) dX11_send_43 fl_X11_32 rfl ?_
            refine ab_aload_n (pc := 46) dX11_send_46 rfl rfl ?_
            refine mo_gi (pc := 47) dX11_send_47 fl_X11_35 rfl ?_
            refine ab_icmp_eq (pc := 50) (tgt := 55) dX11_send_50 (by decide) (fun c_50 => ?_) (fun c_50 => ?_)
            · replace hD := hD.1 c_50
              refine ab_wk (ls2 := [some _, some _, some _, none, none, none]) (And.intro rfl (And.intro rfl (And.intro rfl trivial))) ?_
              refine mo_eqi ?_ (w_send_55 _ _ _ _ hD)
              first | (rw [Fsend]; (try dsimp only); rw [if_neg c_5, if_neg c_25, if_neg c_29, if_pos c_34, if_pos c_39, if_pos c_50]; done) | (rw [Fsend]; (try dsimp only); rw [if_neg c_5, if_neg c_25, if_neg c_29, if_pos c_34, if_pos c_39, if_pos c_50]; rfl)
            · refine ab_iconst (pc := 53) (v := nI 2) dX11_send_53 (by decide) ?_
              refine mo_ir (pc := 54) dX11_send_54 rfl rfl ?_
              first | (rw [Fsend]; (try dsimp only); rw [if_neg c_5, if_neg c_25, if_neg c_29, if_pos c_34, if_pos c_39, if_neg c_50]; done) | (rw [Fsend]; (try dsimp only); rw [if_neg c_5, if_neg c_25, if_neg c_29, if_pos c_34, if_pos c_39, if_neg c_50]; rfl)
  · refine ab_aload_n (pc := 8) dX11_send_8 rfl rfl ?_
    refine ab_dup (pc := 9) dX11_send_9 rfl ?_
    refine mo_gi (pc := 10) dX11_send_10 fl_X11_26 rfl ?_
    refine ab_iconst (pc := 13) (v := nI 1) dX11_send_13 (by decide) ?_
    refine ab_iadd (pc := 14) dX11_send_14 ?_
    refine mo_pi (pc := 15) dX11_send_15 fl_X11_26 rfl rfl (ab_ok_i _) ?_
    refine ab_iconst (pc := 18) (v := nI 1) dX11_send_18 (by decide) ?_
    refine mo_ir (pc := 19) dX11_send_19 rfl rfl ?_
    first | (rw [Fsend]; (try dsimp only); rw [if_pos c_5]; done) | (rw [Fsend]; (try dsimp only); rw [if_pos c_5]; rfl)
def Fsends_13 : Nat → Nat → Nat → Nat → mD → mD
  | 0, _, _, _, m => m
  | n + 1, f, t, a3, m =>
    if 13 ≤ a3 then
      let m5 := ab_up m 5 f (nI (t))
      m5
    else
      let m8 := ab_up m 4 ((13 * f) + a3) (m 3 a3)
      Fsends_13 n f t (a3 + 1) m8
def Dsends_13 : Nat → Nat → Nat → Nat → mD → Prop
  | 0, _, _, _, _ => False
  | n + 1, f, t, a3, m =>
    (a3 < 2147483648) ∧
    ((13 ≤ a3) →
      (f < 12) ∧
      let m5 := ab_up m 5 f (nI (t))
      True) ∧
    (¬ (13 ≤ a3) →
      (a3 < 13) ∧
      (((13 * f) + a3) < 156) ∧
      let m8 := ab_up m 4 ((13 * f) + a3) (m 3 a3)
      Dsends_13 n f t (a3 + 1) m8)
set_option maxRecDepth 100000 in
set_option maxHeartbeats 4000000 in
theorem w_sends_13 {tt : Prop} : ∀ (n : Nat) (f : Nat) (t : Nat) (a3 : Nat) (m : mD) (hD : Dsends_13 n f t a3 m), mV mX11_sends 3 tt (mQv (Fsends_13 n f t a3 m)) 13 [some (.ref (0)), some (.int (nI (f))), some (.int (nI (t))), some (.int (nI (a3)))] [] m := by
  intro n
  induction n with
  | zero => intros; rename_i hD; exact hD.elim
  | succ n ih =>
    intro f t a3 m hD
    refine ab_iload_n (pc := 13) dX11_sends_13 rfl rfl ?_
    refine ab_bipush (pc := 14) (v := nI 13) dX11_sends_14 (by decide) ?_
    obtain ⟨o3, hD⟩ := hD
    refine ab_icmp_geN (pc := 16) (tgt := 42) dX11_sends_16 (by decide) o3 (by decide) (fun c_16 => ?_) (fun c_16 => ?_)
    · replace hD := hD.1 c_16
      refine ab_aload_n (pc := 42) dX11_sends_42 rfl rfl ?_
      refine mo_gr (pc := 43) dX11_sends_43 fl_X11_54 rfl rfl ?_
      refine ab_iload_n (pc := 46) dX11_sends_46 rfl rfl ?_
      refine ab_iload_n (pc := 47) dX11_sends_47 rfl rfl ?_
      obtain ⟨o4, hD⟩ := hD
      refine mo_ist (pc := 48) dX11_sends_48 (by decide) rfl o4 (by decide) ?_
      refine mo_vr (pc := 49) dX11_sends_49 rfl ?_
      first | (rw [Fsends_13]; (try dsimp only); rw [if_pos c_16]; done) | (rw [Fsends_13]; (try dsimp only); rw [if_pos c_16]; rfl)
    · replace hD := hD.2 c_16
      refine ab_aload_n (pc := 19) dX11_sends_19 rfl rfl ?_
      refine mo_gr (pc := 20) dX11_sends_20 fl_X11_51 rfl rfl ?_
      refine ab_bipush (pc := 23) (v := nI 13) dX11_sends_23 (by decide) ?_
      refine ab_iload_n (pc := 25) dX11_sends_25 rfl rfl ?_
      refine ab_imulN (pc := 26) dX11_sends_26 ?_
      refine ab_iload_n (pc := 27) dX11_sends_27 rfl rfl ?_
      refine ab_iaddN (pc := 28) dX11_sends_28 ?_
      refine ab_aload_n (pc := 29) dX11_sends_29 rfl rfl ?_
      refine mo_gr (pc := 30) dX11_sends_30 fl_X11_7 rfl rfl ?_
      refine ab_iload_n (pc := 33) dX11_sends_33 rfl rfl ?_
      obtain ⟨o6, hD⟩ := hD
      refine mo_ild (pc := 34) dX11_sends_34 (by decide) rfl o6 (by decide) ?_
      obtain ⟨o7, hD⟩ := hD
      refine mo_ist (pc := 35) dX11_sends_35 (by decide) rfl o7 (by decide) ?_
      refine ab_iinc (pc := 36) dX11_sends_36 rfl (ab_inc _) (Nat.le_of_ble_eq_true rfl) rfl ?_
      refine ab_goto (pc := 39) (tgt := 13) dX11_sends_39 (by decide) ?_
      refine mo_eqv ?_ (ih _ _ _ _ hD)
      first | (rw [Fsends_13]; (try dsimp only); rw [if_neg c_16]; done) | (rw [Fsends_13]; (try dsimp only); rw [if_neg c_16]; rfl)
def Fsends (f : Nat) (t : Nat) (m : mD) : mD :=
  let z2 := Fsend f t (nI (1)) m
  if (z2.1) = (nI (3)) then
    Fsends_13 14 f t 0 z2.2
  else
    z2.2
def Dsends (f : Nat) (t : Nat) (m : mD) : Prop :=
  (Dsend f t (nI (1)) m) ∧
  let z2 := Fsend f t (nI (1)) m
  (((z2.1) = (nI (3))) →
    Dsends_13 14 f t 0 z2.2) ∧
  (¬ ((z2.1) = (nI (3))) →
    True)
set_option maxRecDepth 100000 in
set_option maxHeartbeats 4000000 in
theorem c_sends {tt : Prop} (f : Nat) (t : Nat) (m : mD) (hD : Dsends f t m) : ab_Met mX11_sends 3 0 0 tt [.ref (0), .int (nI (f)), .int (nI (t))] (sM m) (mQv (Fsends f t m)) := by
  refine ab_Met.of rfl (Nat.le_of_ble_eq_true rfl) ?_
  show mV mX11_sends 3 tt (mQv (Fsends f t m)) 0 [some (.ref (0)), some (.int (nI (f))), some (.int (nI (t))), none] [] m
  refine ab_aload_n (pc := 0) dX11_sends_0 rfl rfl ?_
  refine ab_iload_n (pc := 1) dX11_sends_1 rfl rfl ?_
  refine ab_iload_n (pc := 2) dX11_sends_2 rfl rfl ?_
  refine ab_iconst (pc := 3) (v := nI 1) dX11_sends_3 (by decide) ?_
  obtain ⟨o1, hD⟩ := hD
  refine mo_invi (N := mX11_send) (pc := 4) (d' := 2) (av := [_, _, _]) dX11_sends_4 ml_X11_47 fv_X11_send (Nat.le_of_ble_eq_true rfl) (by decide) (c_send _ _ _ _ o1) ?_
  refine ab_iconst (pc := 7) (v := nI 3) dX11_sends_7 (by decide) ?_
  refine ab_icmp_ne (pc := 8) (tgt := 49) dX11_sends_8 (by decide) (fun c_8 => ?_) (fun c_8 => ?_)
  · refine mo_vr (pc := 49) dX11_sends_49 rfl ?_
    first | (rw [Fsends]; (try dsimp only); rw [if_neg c_8]; done) | (rw [Fsends]; (try dsimp only); rw [if_neg c_8]; rfl)
  · replace hD := hD.1 c_8
    refine ab_iconst (pc := 11) (v := nI 0) dX11_sends_11 (by decide) ?_
    refine ab_istore_n (pc := 12) dX11_sends_12 rfl (Nat.le_of_ble_eq_true rfl) rfl ?_
    refine mo_eqv ?_ (w_sends_13 14 _ _ _ _ hD)
    first | (rw [Fsends]; (try dsimp only); rw [if_pos c_8]; done) | (rw [Fsends]; (try dsimp only); rw [if_pos c_8]; rfl)
def FsendsAgain_13 : Nat → Nat → Nat → mD → Int32 × mD
  | 0, _, _, m => (0, m)
  | n + 1, f, a2, m =>
    if 13 ≤ a2 then
      let m5 := ab_up m 5 f (-1)
      let z8 := Fsends f ((m 5 f).toNatClampNeg) m5
      ((nI (1)), z8)
    else
      let m11 := ab_up m 3 a2 (m 4 ((13 * f) + a2))
      FsendsAgain_13 n f (a2 + 1) m11
def DsendsAgain_13 : Nat → Nat → Nat → mD → Prop
  | 0, _, _, _ => False
  | n + 1, f, a2, m =>
    (a2 < 2147483648) ∧
    ((13 ≤ a2) →
      (f < 12) ∧
      (f < 12) ∧
      let m5 := ab_up m 5 f (-1)
      (¬ (m 5 f) < 0) ∧
      (Dsends f ((m 5 f).toNatClampNeg) m5) ∧
      let z8 := Fsends f ((m 5 f).toNatClampNeg) m5
      True) ∧
    (¬ (13 ≤ a2) →
      (((13 * f) + a2) < 156) ∧
      (a2 < 13) ∧
      let m11 := ab_up m 3 a2 (m 4 ((13 * f) + a2))
      DsendsAgain_13 n f (a2 + 1) m11)
set_option maxRecDepth 100000 in
set_option maxHeartbeats 4000000 in
theorem w_sendsAgain_13 {tt : Prop} : ∀ (n : Nat) (f : Nat) (a2 : Nat) (m : mD) (hD : DsendsAgain_13 n f a2 m), mV mX11_sendsAgain 4 tt (mQi (FsendsAgain_13 n f a2 m)) 13 [some (.ref (0)), some (.int (nI (f))), some (.int (nI (a2)))] [] m := by
  intro n
  induction n with
  | zero => intros; rename_i hD; exact hD.elim
  | succ n ih =>
    intro f a2 m hD
    refine ab_iload_n (pc := 13) dX11_sendsAgain_13 rfl rfl ?_
    refine ab_bipush (pc := 14) (v := nI 13) dX11_sendsAgain_14 (by decide) ?_
    obtain ⟨o2, hD⟩ := hD
    refine ab_icmp_geN (pc := 16) (tgt := 42) dX11_sendsAgain_16 (by decide) o2 (by decide) (fun c_16 => ?_) (fun c_16 => ?_)
    · replace hD := hD.1 c_16
      refine ab_aload_n (pc := 42) dX11_sendsAgain_42 rfl rfl ?_
      refine mo_gr (pc := 43) dX11_sendsAgain_43 fl_X11_54 rfl rfl ?_
      refine ab_iload_n (pc := 46) dX11_sendsAgain_46 rfl rfl ?_
      obtain ⟨o3, hD⟩ := hD
      refine mo_ild (pc := 47) dX11_sendsAgain_47 (by decide) rfl o3 (by decide) ?_
      refine ab_istore_n (pc := 48) dX11_sendsAgain_48 rfl (Nat.le_of_ble_eq_true rfl) rfl ?_
      refine ab_aload_n (pc := 49) dX11_sendsAgain_49 rfl rfl ?_
      refine mo_gr (pc := 50) dX11_sendsAgain_50 fl_X11_54 rfl rfl ?_
      refine ab_iload_n (pc := 53) dX11_sendsAgain_53 rfl rfl ?_
      refine ab_iconst (pc := 54) (v := -1) dX11_sendsAgain_54 (by decide) ?_
      obtain ⟨o4, hD⟩ := hD
      refine mo_ist (pc := 55) dX11_sendsAgain_55 (by decide) rfl o4 (by decide) ?_
      refine ab_aload_n (pc := 56) dX11_sendsAgain_56 rfl rfl ?_
      refine ab_iload_n (pc := 57) dX11_sendsAgain_57 rfl rfl ?_
      refine ab_iload_n (pc := 58) dX11_sendsAgain_58 rfl rfl ?_
      obtain ⟨o6, hD⟩ := hD
      refine ab_stk2 (congrArg Value.int (ab_nat o6)) rfl ?_
      obtain ⟨o7, hD⟩ := hD
      refine mo_invv (N := mX11_sends) (pc := 59) (d' := 3) (av := [_, _]) dX11_sendsAgain_59 ml_X11_57 fv_X11_sends (Nat.le_of_ble_eq_true rfl) (by decide) (c_sends _ _ _ o7) ?_
      refine ab_iconst (pc := 62) (v := nI 1) dX11_sendsAgain_62 (by decide) ?_
      refine mo_ir (pc := 63) dX11_sendsAgain_63 rfl (ab_nb (Or.inr rfl)) ?_
      first | (rw [FsendsAgain_13]; (try dsimp only); rw [if_pos c_16]; done) | (rw [FsendsAgain_13]; (try dsimp only); rw [if_pos c_16]; rfl)
    · replace hD := hD.2 c_16
      refine ab_aload_n (pc := 19) dX11_sendsAgain_19 rfl rfl ?_
      refine mo_gr (pc := 20) dX11_sendsAgain_20 fl_X11_7 rfl rfl ?_
      refine ab_iload_n (pc := 23) dX11_sendsAgain_23 rfl rfl ?_
      refine ab_aload_n (pc := 24) dX11_sendsAgain_24 rfl rfl ?_
      refine mo_gr (pc := 25) dX11_sendsAgain_25 fl_X11_51 rfl rfl ?_
      refine ab_bipush (pc := 28) (v := nI 13) dX11_sendsAgain_28 (by decide) ?_
      refine ab_iload_n (pc := 30) dX11_sendsAgain_30 rfl rfl ?_
      refine ab_imulN (pc := 31) dX11_sendsAgain_31 ?_
      refine ab_iload_n (pc := 32) dX11_sendsAgain_32 rfl rfl ?_
      refine ab_iaddN (pc := 33) dX11_sendsAgain_33 ?_
      obtain ⟨o9, hD⟩ := hD
      refine mo_ild (pc := 34) dX11_sendsAgain_34 (by decide) rfl o9 (by decide) ?_
      obtain ⟨o10, hD⟩ := hD
      refine mo_ist (pc := 35) dX11_sendsAgain_35 (by decide) rfl o10 (by decide) ?_
      refine ab_iinc (pc := 36) dX11_sendsAgain_36 rfl (ab_inc _) (Nat.le_of_ble_eq_true rfl) rfl ?_
      refine ab_goto (pc := 39) (tgt := 13) dX11_sendsAgain_39 (by decide) ?_
      refine mo_eqi ?_ (ih _ _ _ hD)
      first | (rw [FsendsAgain_13]; (try dsimp only); rw [if_neg c_16]; done) | (rw [FsendsAgain_13]; (try dsimp only); rw [if_neg c_16]; rfl)
def FsendsAgain (f : Nat) (m : mD) : Int32 × mD :=
  if 0 ≤ (m 5 f) then
    FsendsAgain_13 14 f 0 m
  else
    ((nI (0)), m)
def DsendsAgain (f : Nat) (m : mD) : Prop :=
  (f < 12) ∧
  ((0 ≤ (m 5 f)) →
    DsendsAgain_13 14 f 0 m) ∧
  (¬ (0 ≤ (m 5 f)) →
    True)
set_option maxRecDepth 100000 in
set_option maxHeartbeats 4000000 in
theorem c_sendsAgain {tt : Prop} (f : Nat) (m : mD) (hD : DsendsAgain f m) : ab_Met mX11_sendsAgain 4 0 0 tt [.ref (0), .int (nI (f))] (sM m) (mQi (FsendsAgain f m)) := by
  refine ab_Met.of rfl (Nat.le_of_ble_eq_true rfl) ?_
  show mV mX11_sendsAgain 4 tt (mQi (FsendsAgain f m)) 0 [some (.ref (0)), some (.int (nI (f))), none] [] m
  refine ab_aload_n (pc := 0) dX11_sendsAgain_0 rfl rfl ?_
  refine mo_gr (pc := 1) dX11_sendsAgain_1 fl_X11_54 rfl rfl ?_
  refine ab_iload_n (pc := 4) dX11_sendsAgain_4 rfl rfl ?_
  obtain ⟨o1, hD⟩ := hD
  refine mo_ild (pc := 5) dX11_sendsAgain_5 (by decide) rfl o1 (by decide) ?_
  refine ab_if_ge (pc := 6) (tgt := 11) dX11_sendsAgain_6 (by decide) (fun c_6 => ?_) (fun c_6 => ?_)
  · replace hD := hD.1 c_6
    refine ab_iconst (pc := 11) (v := nI 0) dX11_sendsAgain_11 (by decide) ?_
    refine ab_istore_n (pc := 12) dX11_sendsAgain_12 rfl (Nat.le_of_ble_eq_true rfl) rfl ?_
    refine mo_eqi ?_ (w_sendsAgain_13 14 _ _ _ hD)
    first | (rw [FsendsAgain]; (try dsimp only); rw [if_pos c_6]; done) | (rw [FsendsAgain]; (try dsimp only); rw [if_pos c_6]; rfl)
  · refine ab_iconst (pc := 9) (v := nI 0) dX11_sendsAgain_9 (by decide) ?_
    refine mo_ir (pc := 10) dX11_sendsAgain_10 rfl (ab_nb (Or.inl rfl)) ?_
    first | (rw [FsendsAgain]; (try dsimp only); rw [if_neg c_6]; done) | (rw [FsendsAgain]; (try dsimp only); rw [if_neg c_6]; rfl)
def Fdrop_20 : Nat → Nat → Nat → Nat → mD → mD
  | 0, _, _, _, m => m
  | n + 1, p, k, a3, m =>
    if (13 * ((12 * p) + ((m 2 p).toNatClampNeg))) ≤ a3 then
      m
    else
      let m12 := ab_up m 1 a3 (m 1 (a3 + 13))
      Fdrop_20 n p k (a3 + 1) m12
def Ddrop_20 : Nat → Nat → Nat → Nat → mD → Prop
  | 0, _, _, _, _ => False
  | n + 1, p, k, a3, m =>
    (p < 12) ∧
    (¬ (m 2 p) < 0) ∧
    (a3 < 2147483648) ∧
    ((13 * ((12 * p) + ((m 2 p).toNatClampNeg))) < 2147483648) ∧
    (((13 * ((12 * p) + ((m 2 p).toNatClampNeg))) ≤ a3) →
      True) ∧
    (¬ ((13 * ((12 * p) + ((m 2 p).toNatClampNeg))) ≤ a3) →
      ((a3 + 13) < 1872) ∧
      (a3 < 1872) ∧
      let m12 := ab_up m 1 a3 (m 1 (a3 + 13))
      Ddrop_20 n p k (a3 + 1) m12)
set_option maxRecDepth 100000 in
set_option maxHeartbeats 4000000 in
theorem w_drop_20 {tt : Prop} : ∀ (n : Nat) (p : Nat) (k : Nat) (a3 : Nat) (m : mD) (hD : Ddrop_20 n p k a3 m), mV mX11_drop 0 tt (mQv (Fdrop_20 n p k a3 m)) 20 [some (.ref (0)), some (.int (nI (p))), none, some (.int (nI (a3)))] [] m := by
  intro n
  induction n with
  | zero => intros; rename_i hD; exact hD.elim
  | succ n ih =>
    intro p k a3 m hD
    refine ab_iload_n (pc := 20) dX11_drop_20 rfl rfl ?_
    refine ab_bipush (pc := 21) (v := nI 13) dX11_drop_21 (by decide) ?_
    refine ab_bipush (pc := 23) (v := nI 12) dX11_drop_23 (by decide) ?_
    refine ab_iload_n (pc := 25) dX11_drop_25 rfl rfl ?_
    refine ab_imulN (pc := 26) dX11_drop_26 ?_
    refine ab_aload_n (pc := 27) dX11_drop_27 rfl rfl ?_
    refine mo_gr (pc := 28) dX11_drop_28 fl_X11_38 rfl rfl ?_
    refine ab_iload_n (pc := 31) dX11_drop_31 rfl rfl ?_
    obtain ⟨o6, hD⟩ := hD
    refine mo_ild (pc := 32) dX11_drop_32 (by decide) rfl o6 (by decide) ?_
    obtain ⟨o7, hD⟩ := hD
    refine ab_nat1 (ab_nat o7) ?_
    refine ab_iaddN (pc := 33) dX11_drop_33 ?_
    refine ab_imulN (pc := 34) dX11_drop_34 ?_
    obtain ⟨o8, hD⟩ := hD
    obtain ⟨o9, hD⟩ := hD
    refine ab_icmp_geN (pc := 35) (tgt := 59) dX11_drop_35 (by decide) o8 o9 (fun c_35 => ?_) (fun c_35 => ?_)
    · refine mo_vr (pc := 59) dX11_drop_59 rfl ?_
      first | (rw [Fdrop_20]; (try dsimp only); rw [if_pos c_35]; done) | (rw [Fdrop_20]; (try dsimp only); rw [if_pos c_35]; rfl)
    · replace hD := hD.2 c_35
      refine ab_aload_n (pc := 38) dX11_drop_38 rfl rfl ?_
      refine mo_gr (pc := 39) dX11_drop_39 fl_X11_41 rfl rfl ?_
      refine ab_iload_n (pc := 42) dX11_drop_42 rfl rfl ?_
      refine ab_aload_n (pc := 43) dX11_drop_43 rfl rfl ?_
      refine mo_gr (pc := 44) dX11_drop_44 fl_X11_41 rfl rfl ?_
      refine ab_iload_n (pc := 47) dX11_drop_47 rfl rfl ?_
      refine ab_bipush (pc := 48) (v := nI 13) dX11_drop_48 (by decide) ?_
      refine ab_iaddN (pc := 50) dX11_drop_50 ?_
      obtain ⟨o10, hD⟩ := hD
      refine mo_ild (pc := 51) dX11_drop_51 (by decide) rfl o10 (by decide) ?_
      obtain ⟨o11, hD⟩ := hD
      refine mo_ist (pc := 52) dX11_drop_52 (by decide) rfl o11 (by decide) ?_
      refine ab_iinc (pc := 53) dX11_drop_53 rfl (ab_inc _) (Nat.le_of_ble_eq_true rfl) rfl ?_
      refine ab_goto (pc := 56) (tgt := 20) dX11_drop_56 (by decide) ?_
      refine ab_wk (ls2 := [some _, some _, none, some _]) (And.intro rfl (And.intro rfl (And.intro rfl trivial))) ?_
      refine mo_eqv ?_ (ih _ _ _ _ hD)
      first | (rw [Fdrop_20]; (try dsimp only); rw [if_neg c_35]; done) | (rw [Fdrop_20]; (try dsimp only); rw [if_neg c_35]; rfl)
def Fdrop (p : Nat) (k : Nat) (m : mD) : mD :=
  let m5 := ab_up m 2 p (nI (((m 2 p).toNatClampNeg) - 1))
  Fdrop_20 157 p k (13 * ((12 * p) + k)) m5
def Ddrop (p : Nat) (k : Nat) (m : mD) : Prop :=
  (p < 12) ∧
  (¬ (m 2 p) < 0) ∧
  (1 ≤ ((m 2 p).toNatClampNeg)) ∧
  (p < 12) ∧
  let m5 := ab_up m 2 p (nI (((m 2 p).toNatClampNeg) - 1))
  Ddrop_20 157 p k (13 * ((12 * p) + k)) m5
set_option maxRecDepth 100000 in
set_option maxHeartbeats 4000000 in
theorem c_drop {tt : Prop} (p : Nat) (k : Nat) (m : mD) (hD : Ddrop p k m) : ab_Met mX11_drop 0 0 0 tt [.ref (0), .int (nI (p)), .int (nI (k))] (sM m) (mQv (Fdrop p k m)) := by
  refine ab_Met.of rfl (Nat.le_of_ble_eq_true rfl) ?_
  show mV mX11_drop 0 tt (mQv (Fdrop p k m)) 0 [some (.ref (0)), some (.int (nI (p))), some (.int (nI (k))), none] [] m
  refine ab_aload_n (pc := 0) dX11_drop_0 rfl rfl ?_
  refine mo_gr (pc := 1) dX11_drop_1 fl_X11_38 rfl rfl ?_
  refine ab_iload_n (pc := 4) dX11_drop_4 rfl rfl ?_
  refine ab_dup2 (pc := 5) dX11_drop_5 rfl rfl ?_
  obtain ⟨o1, hD⟩ := hD
  refine mo_ild (pc := 6) dX11_drop_6 (by decide) rfl o1 (by decide) ?_
  obtain ⟨o2, hD⟩ := hD
  refine ab_nat1 (ab_nat o2) ?_
  refine ab_iconst (pc := 7) (v := nI 1) dX11_drop_7 (by decide) ?_
  obtain ⟨o3, hD⟩ := hD
  refine ab_isubN (pc := 8) dX11_drop_8 o3 ?_
  obtain ⟨o4, hD⟩ := hD
  refine mo_ist (pc := 9) dX11_drop_9 (by decide) rfl o4 (by decide) ?_
  refine ab_bipush (pc := 10) (v := nI 13) dX11_drop_10 (by decide) ?_
  refine ab_bipush (pc := 12) (v := nI 12) dX11_drop_12 (by decide) ?_
  refine ab_iload_n (pc := 14) dX11_drop_14 rfl rfl ?_
  refine ab_imulN (pc := 15) dX11_drop_15 ?_
  refine ab_iload_n (pc := 16) dX11_drop_16 rfl rfl ?_
  refine ab_iaddN (pc := 17) dX11_drop_17 ?_
  refine ab_imulN (pc := 18) dX11_drop_18 ?_
  refine ab_istore_n (pc := 19) dX11_drop_19 rfl (Nat.le_of_ble_eq_true rfl) rfl ?_
  refine ab_wk (ls2 := [some _, some _, none, some _]) (And.intro rfl (And.intro rfl (And.intro rfl trivial))) ?_
  refine mo_eqv ?_ (w_drop_20 157 _ _ _ _ hD)
  first | rfl | (rw [Fdrop]; done) | (rw [Fdrop]; rfl)
def FtakeOut_13 : Nat → Nat → Nat → Nat → Nat → mD → mD
  | 0, _, _, _, _, m => m
  | n + 1, p, k, a3, a4, m =>
    if 13 ≤ a4 then
      let z3 := Fdrop p k m
      z3
    else
      let m6 := ab_up m 6 a4 (m 1 (a3 + a4))
      FtakeOut_13 n p k a3 (a4 + 1) m6
def DtakeOut_13 : Nat → Nat → Nat → Nat → Nat → mD → Prop
  | 0, _, _, _, _, _ => False
  | n + 1, p, k, a3, a4, m =>
    (a4 < 2147483648) ∧
    ((13 ≤ a4) →
      (Ddrop p k m) ∧
      let z3 := Fdrop p k m
      True) ∧
    (¬ (13 ≤ a4) →
      ((a3 + a4) < 1872) ∧
      (a4 < 13) ∧
      let m6 := ab_up m 6 a4 (m 1 (a3 + a4))
      DtakeOut_13 n p k a3 (a4 + 1) m6)
set_option maxRecDepth 100000 in
set_option maxHeartbeats 4000000 in
theorem w_takeOut_13 {tt : Prop} : ∀ (n : Nat) (p : Nat) (k : Nat) (a3 : Nat) (a4 : Nat) (m : mD) (hD : DtakeOut_13 n p k a3 a4 m), mV mX11_takeOut 1 tt (mQv (FtakeOut_13 n p k a3 a4 m)) 13 [some (.ref (0)), some (.int (nI (p))), some (.int (nI (k))), some (.int (nI (a3))), some (.int (nI (a4)))] [] m := by
  intro n
  induction n with
  | zero => intros; rename_i hD; exact hD.elim
  | succ n ih =>
    intro p k a3 a4 m hD
    refine ab_iload (pc := 13) dX11_takeOut_13 rfl ?_
    refine ab_bipush (pc := 15) (v := nI 13) dX11_takeOut_15 (by decide) ?_
    obtain ⟨o1, hD⟩ := hD
    refine ab_icmp_geN (pc := 17) (tgt := 42) dX11_takeOut_17 (by decide) o1 (by decide) (fun c_17 => ?_) (fun c_17 => ?_)
    · replace hD := hD.1 c_17
      refine ab_aload_n (pc := 42) dX11_takeOut_42 rfl rfl ?_
      refine ab_iload_n (pc := 43) dX11_takeOut_43 rfl rfl ?_
      refine ab_iload_n (pc := 44) dX11_takeOut_44 rfl rfl ?_
      obtain ⟨o2, hD⟩ := hD
      refine mo_invv (N := mX11_drop) (pc := 45) (d' := 0) (av := [_, _]) dX11_takeOut_45 ml_X11_64 fv_X11_drop (Nat.le_of_ble_eq_true rfl) (by decide) (c_drop _ _ _ o2) ?_
      refine mo_vr (pc := 48) dX11_takeOut_48 rfl ?_
      first | (rw [FtakeOut_13]; (try dsimp only); rw [if_pos c_17]; done) | (rw [FtakeOut_13]; (try dsimp only); rw [if_pos c_17]; rfl)
    · replace hD := hD.2 c_17
      refine ab_aload_n (pc := 20) dX11_takeOut_20 rfl rfl ?_
      refine mo_gr (pc := 21) dX11_takeOut_21 fl_X11_61 rfl rfl ?_
      refine ab_iload (pc := 24) dX11_takeOut_24 rfl ?_
      refine ab_aload_n (pc := 26) dX11_takeOut_26 rfl rfl ?_
      refine mo_gr (pc := 27) dX11_takeOut_27 fl_X11_41 rfl rfl ?_
      refine ab_iload_n (pc := 30) dX11_takeOut_30 rfl rfl ?_
      refine ab_iload (pc := 31) dX11_takeOut_31 rfl ?_
      refine ab_iaddN (pc := 33) dX11_takeOut_33 ?_
      obtain ⟨o4, hD⟩ := hD
      refine mo_ild (pc := 34) dX11_takeOut_34 (by decide) rfl o4 (by decide) ?_
      obtain ⟨o5, hD⟩ := hD
      refine mo_ist (pc := 35) dX11_takeOut_35 (by decide) rfl o5 (by decide) ?_
      refine ab_iinc (pc := 36) dX11_takeOut_36 rfl (ab_inc _) (Nat.le_of_ble_eq_true rfl) rfl ?_
      refine ab_goto (pc := 39) (tgt := 13) dX11_takeOut_39 (by decide) ?_
      refine mo_eqv ?_ (ih _ _ _ _ _ hD)
      first | (rw [FtakeOut_13]; (try dsimp only); rw [if_neg c_17]; done) | (rw [FtakeOut_13]; (try dsimp only); rw [if_neg c_17]; rfl)
def FtakeOut (p : Nat) (k : Nat) (m : mD) : mD :=
  FtakeOut_13 14 p k (13 * ((12 * p) + k)) 0 m
def DtakeOut (p : Nat) (k : Nat) (m : mD) : Prop :=
  DtakeOut_13 14 p k (13 * ((12 * p) + k)) 0 m
set_option maxRecDepth 100000 in
set_option maxHeartbeats 4000000 in
theorem c_takeOut {tt : Prop} (p : Nat) (k : Nat) (m : mD) (hD : DtakeOut p k m) : ab_Met mX11_takeOut 1 0 0 tt [.ref (0), .int (nI (p)), .int (nI (k))] (sM m) (mQv (FtakeOut p k m)) := by
  refine ab_Met.of rfl (Nat.le_of_ble_eq_true rfl) ?_
  show mV mX11_takeOut 1 tt (mQv (FtakeOut p k m)) 0 [some (.ref (0)), some (.int (nI (p))), some (.int (nI (k))), none, none] [] m
  refine ab_bipush (pc := 0) (v := nI 13) dX11_takeOut_0 (by decide) ?_
  refine ab_bipush (pc := 2) (v := nI 12) dX11_takeOut_2 (by decide) ?_
  refine ab_iload_n (pc := 4) dX11_takeOut_4 rfl rfl ?_
  refine ab_imulN (pc := 5) dX11_takeOut_5 ?_
  refine ab_iload_n (pc := 6) dX11_takeOut_6 rfl rfl ?_
  refine ab_iaddN (pc := 7) dX11_takeOut_7 ?_
  refine ab_imulN (pc := 8) dX11_takeOut_8 ?_
  refine ab_istore_n (pc := 9) dX11_takeOut_9 rfl (Nat.le_of_ble_eq_true rfl) rfl ?_
  refine ab_iconst (pc := 10) (v := nI 0) dX11_takeOut_10 (by decide) ?_
  refine ab_istore (pc := 11) dX11_takeOut_11 (Nat.le_of_ble_eq_true rfl) rfl ?_
  refine mo_eqv ?_ (w_takeOut_13 14 _ _ _ _ _ hD)
  first | rfl | (rw [FtakeOut]; done) | (rw [FtakeOut]; rfl)
def Ffield (p : Nat) (k : Nat) (w : Nat) (m : mD) : Int32 :=
  (m 1 ((13 * ((12 * p) + k)) + w))
def Dfield (p : Nat) (k : Nat) (w : Nat) (m : mD) : Prop :=
  (((13 * ((12 * p) + k)) + w) < 1872) ∧
  True
set_option maxRecDepth 100000 in
set_option maxHeartbeats 4000000 in
theorem c_field {tt : Prop} (p : Nat) (k : Nat) (w : Nat) (m : mD) (hD : Dfield p k w m) : ab_Met mX11_field 0 0 0 tt [.ref (0), .int (nI (p)), .int (nI (k)), .int (nI (w))] (sM m) (mQi (Ffield p k w m, m)) := by
  refine ab_Met.of rfl (Nat.le_of_ble_eq_true rfl) ?_
  show mV mX11_field 0 tt (mQi (Ffield p k w m, m)) 0 [some (.ref (0)), some (.int (nI (p))), some (.int (nI (k))), some (.int (nI (w)))] [] m
  refine ab_aload_n (pc := 0) dX11_field_0 rfl rfl ?_
  refine mo_gr (pc := 1) dX11_field_1 fl_X11_41 rfl rfl ?_
  refine ab_bipush (pc := 4) (v := nI 13) dX11_field_4 (by decide) ?_
  refine ab_bipush (pc := 6) (v := nI 12) dX11_field_6 (by decide) ?_
  refine ab_iload_n (pc := 8) dX11_field_8 rfl rfl ?_
  refine ab_imulN (pc := 9) dX11_field_9 ?_
  refine ab_iload_n (pc := 10) dX11_field_10 rfl rfl ?_
  refine ab_iaddN (pc := 11) dX11_field_11 ?_
  refine ab_imulN (pc := 12) dX11_field_12 ?_
  refine ab_iload_n (pc := 13) dX11_field_13 rfl rfl ?_
  refine ab_iaddN (pc := 14) dX11_field_14 ?_
  obtain ⟨o1, hD⟩ := hD
  refine mo_ild (pc := 15) dX11_field_15 (by decide) rfl o1 (by decide) ?_
  refine mo_ir (pc := 16) dX11_field_16 rfl rfl ?_
  first | rfl | (rw [Ffield]; done) | (rw [Ffield]; rfl)
def Ffreed (u : Nat) (m : mD) : Int32 × mD :=
  let m2 := ab_up m 7 u (nI (0))
  let m4 := ab_up m2 11 u (-1)
  (((nI (256 * u)) + (m4 12 u)), m4)
def Dfreed (u : Nat) (m : mD) : Prop :=
  (u < 12) ∧
  let m2 := ab_up m 7 u (nI (0))
  (u < 12) ∧
  let m4 := ab_up m2 11 u (-1)
  (u < 12) ∧
  True
set_option maxRecDepth 100000 in
set_option maxHeartbeats 4000000 in
theorem c_freed {tt : Prop} (u : Nat) (m : mD) (hD : Dfreed u m) : ab_Met mX11_freed 0 0 0 tt [.ref (0), .int (nI (u))] (sM m) (mQi (Ffreed u m)) := by
  refine ab_Met.of rfl (Nat.le_of_ble_eq_true rfl) ?_
  show mV mX11_freed 0 tt (mQi (Ffreed u m)) 0 [some (.ref (0)), some (.int (nI (u)))] [] m
  refine ab_aload_n (pc := 0) dX11_freed_0 rfl rfl ?_
  refine mo_gr (pc := 1) dX11_freed_1 fl_X11_19 rfl rfl ?_
  refine ab_iload_n (pc := 4) dX11_freed_4 rfl rfl ?_
  refine ab_iconst (pc := 5) (v := nI 0) dX11_freed_5 (by decide) ?_
  obtain ⟨o1, hD⟩ := hD
  refine mo_ist (pc := 6) dX11_freed_6 (by decide) rfl o1 (by decide) ?_
  refine ab_aload_n (pc := 7) dX11_freed_7 rfl rfl ?_
  refine mo_gr (pc := 8) dX11_freed_8 fl_X11_83 rfl rfl ?_
  refine ab_iload_n (pc := 11) dX11_freed_11 rfl rfl ?_
  refine ab_iconst (pc := 12) (v := -1) dX11_freed_12 (by decide) ?_
  obtain ⟨o3, hD⟩ := hD
  refine mo_ist (pc := 13) dX11_freed_13 (by decide) rfl o3 (by decide) ?_
  refine ab_sipush (pc := 14) (v := nI 256) dX11_freed_14 (by decide) ?_
  refine ab_iload_n (pc := 17) dX11_freed_17 rfl rfl ?_
  refine ab_imulN (pc := 18) dX11_freed_18 ?_
  refine ab_aload_n (pc := 19) dX11_freed_19 rfl rfl ?_
  refine mo_gr (pc := 20) dX11_freed_20 fl_X11_86 rfl rfl ?_
  refine ab_iload_n (pc := 23) dX11_freed_23 rfl rfl ?_
  obtain ⟨o5, hD⟩ := hD
  refine mo_ild (pc := 24) dX11_freed_24 (by decide) rfl o5 (by decide) ?_
  refine ab_iadd (pc := 25) dX11_freed_25 ?_
  refine mo_ir (pc := 26) dX11_freed_26 rfl rfl ?_
  first | rfl | (rw [Ffreed]; done) | (rw [Ffreed]; rfl)
def FfilesThere_4 : Nat → Int32 → Nat → mD → Int32
  | 0, _, _, _ => 0
  | n + 1, a1, a2, m =>
    if 16 ≤ a2 then
      (a1)
    else
      if (m 16 a2) = 0 then
        FfilesThere_4 n ((a1) + (nI (0))) (a2 + 1) m
      else
        FfilesThere_4 n ((a1) + (nI (1))) (a2 + 1) m
def DfilesThere_4 : Nat → Int32 → Nat → mD → Prop
  | 0, _, _, _ => False
  | n + 1, a1, a2, m =>
    (a2 < 2147483648) ∧
    ((16 ≤ a2) →
      True) ∧
    (¬ (16 ≤ a2) →
      (a2 < 16) ∧
      (((m 16 a2) = 0) →
        DfilesThere_4 n ((a1) + (nI (0))) (a2 + 1) m) ∧
      (¬ ((m 16 a2) = 0) →
        DfilesThere_4 n ((a1) + (nI (1))) (a2 + 1) m))
set_option maxRecDepth 100000 in
set_option maxHeartbeats 4000000 in
theorem w_filesThere_4 {tt : Prop} : ∀ (n : Nat) (a1 : Int32) (a2 : Nat) (m : mD) (hD : DfilesThere_4 n a1 a2 m), mV mX11_filesThere 0 tt (mQi (FfilesThere_4 n a1 a2 m, m)) 4 [some (.ref (0)), some (.int (a1)), some (.int (nI (a2)))] [] m := by
  intro n
  induction n with
  | zero => intros; rename_i hD; exact hD.elim
  | succ n ih =>
    intro a1 a2 m hD
    refine ab_iload_n (pc := 4) dX11_filesThere_4 rfl rfl ?_
    refine ab_bipush (pc := 5) (v := nI 16) dX11_filesThere_5 (by decide) ?_
    obtain ⟨o1, hD⟩ := hD
    refine ab_icmp_geN (pc := 7) (tgt := 33) dX11_filesThere_7 (by decide) o1 (by decide) (fun c_7 => ?_) (fun c_7 => ?_)
    · refine ab_iload_n (pc := 33) dX11_filesThere_33 rfl rfl ?_
      refine mo_ir (pc := 34) dX11_filesThere_34 rfl rfl ?_
      first | (rw [FfilesThere_4]; (try dsimp only); rw [if_pos c_7]; done) | (rw [FfilesThere_4]; (try dsimp only); rw [if_pos c_7]; rfl)
    · replace hD := hD.2 c_7
      refine ab_iload_n (pc := 10) dX11_filesThere_10 rfl rfl ?_
      refine ab_aload_n (pc := 11) dX11_filesThere_11 rfl rfl ?_
      refine mo_gr (pc := 12) dX11_filesThere_12 fl_X11_98 rfl rfl ?_
      refine ab_iload_n (pc := 15) dX11_filesThere_15 rfl rfl ?_
      obtain ⟨o2, hD⟩ := hD
      refine mo_zld (pc := 16) dX11_filesThere_16 (by decide) rfl o2 (by decide) ?_
      refine ab_if_eq (pc := 17) (tgt := 24) dX11_filesThere_17 (by decide) (fun c_17 => ?_) (fun c_17 => ?_)
      · replace hD := hD.1 c_17
        refine ab_iconst (pc := 24) (v := nI 0) dX11_filesThere_24 (by decide) ?_
        refine ab_iadd (pc := 25) dX11_filesThere_25 ?_
        refine ab_istore_n (pc := 26) dX11_filesThere_26 rfl (Nat.le_of_ble_eq_true rfl) rfl ?_
        refine ab_iinc (pc := 27) dX11_filesThere_27 rfl (ab_inc _) (Nat.le_of_ble_eq_true rfl) rfl ?_
        refine ab_goto (pc := 30) (tgt := 4) dX11_filesThere_30 (by decide) ?_
        refine mo_eqr ?_ (ih _ _ _ hD)
        first | (rw [FfilesThere_4]; (try dsimp only); rw [if_neg c_7, if_pos c_17]; done) | (rw [FfilesThere_4]; (try dsimp only); rw [if_neg c_7, if_pos c_17]; rfl)
      · replace hD := hD.2 c_17
        refine ab_iconst (pc := 20) (v := nI 1) dX11_filesThere_20 (by decide) ?_
        refine ab_goto (pc := 21) (tgt := 25) dX11_filesThere_21 (by decide) ?_
        refine ab_iadd (pc := 25) dX11_filesThere_25 ?_
        refine ab_istore_n (pc := 26) dX11_filesThere_26 rfl (Nat.le_of_ble_eq_true rfl) rfl ?_
        refine ab_iinc (pc := 27) dX11_filesThere_27 rfl (ab_inc _) (Nat.le_of_ble_eq_true rfl) rfl ?_
        refine ab_goto (pc := 30) (tgt := 4) dX11_filesThere_30 (by decide) ?_
        refine mo_eqr ?_ (ih _ _ _ hD)
        first | (rw [FfilesThere_4]; (try dsimp only); rw [if_neg c_7, if_neg c_17]; done) | (rw [FfilesThere_4]; (try dsimp only); rw [if_neg c_7, if_neg c_17]; rfl)
def FfilesThere  (m : mD) : Int32 :=
  FfilesThere_4 17 (nI (0)) 0 m
def DfilesThere  (m : mD) : Prop :=
  DfilesThere_4 17 (nI (0)) 0 m
set_option maxRecDepth 100000 in
set_option maxHeartbeats 4000000 in
theorem c_filesThere {tt : Prop}  (m : mD) (hD : DfilesThere  m) : ab_Met mX11_filesThere 0 0 0 tt [.ref (0)] (sM m) (mQi (FfilesThere  m, m)) := by
  refine ab_Met.of rfl (Nat.le_of_ble_eq_true rfl) ?_
  show mV mX11_filesThere 0 tt (mQi (FfilesThere  m, m)) 0 [some (.ref (0)), none, none] [] m
  refine ab_iconst (pc := 0) (v := nI 0) dX11_filesThere_0 (by decide) ?_
  refine ab_istore_n (pc := 1) dX11_filesThere_1 rfl (Nat.le_of_ble_eq_true rfl) rfl ?_
  refine ab_iconst (pc := 2) (v := nI 0) dX11_filesThere_2 (by decide) ?_
  refine ab_istore_n (pc := 3) dX11_filesThere_3 rfl (Nat.le_of_ble_eq_true rfl) rfl ?_
  refine mo_eqr ?_ (w_filesThere_4 17 _ _ _ hD)
  first | rfl | (rw [FfilesThere]; done) | (rw [FfilesThere]; rfl)
def Ftells (f : Nat) (u : Nat) (v : Int32) (m : mD) : mD :=
  let z2 := Fdrafts (nI (50)) (v) (nI (0)) m
  let z4 := Fsends f u z2
  z4
def Dtells (f : Nat) (u : Nat) (v : Int32) (m : mD) : Prop :=
  (Ddrafts (nI (50)) (v) (nI (0)) m) ∧
  let z2 := Fdrafts (nI (50)) (v) (nI (0)) m
  (Dsends f u z2) ∧
  let z4 := Fsends f u z2
  True
set_option maxRecDepth 100000 in
set_option maxHeartbeats 4000000 in
theorem c_tells {tt : Prop} (f : Nat) (u : Nat) (v : Int32) (m : mD) (hD : Dtells f u v m) : ab_Met mX11_tells 4 0 0 tt [.ref (0), .int (nI (f)), .int (nI (u)), .int (v)] (sM m) (mQv (Ftells f u v m)) := by
  refine ab_Met.of rfl (Nat.le_of_ble_eq_true rfl) ?_
  show mV mX11_tells 4 tt (mQv (Ftells f u v m)) 0 [some (.ref (0)), some (.int (nI (f))), some (.int (nI (u))), some (.int (v))] [] m
  refine ab_aload_n (pc := 0) dX11_tells_0 rfl rfl ?_
  refine ab_bipush (pc := 1) (v := nI 50) dX11_tells_1 (by decide) ?_
  refine ab_iload_n (pc := 3) dX11_tells_3 rfl rfl ?_
  refine ab_iconst (pc := 4) (v := nI 0) dX11_tells_4 (by decide) ?_
  obtain ⟨o1, hD⟩ := hD
  refine mo_invv (N := mX11_drafts) (pc := 5) (d' := 0) (av := [_, _, _]) dX11_tells_5 ml_X11_152 fv_X11_drafts (Nat.le_of_ble_eq_true rfl) (by decide) (c_drafts _ _ _ _ o1) ?_
  refine ab_aload_n (pc := 8) dX11_tells_8 rfl rfl ?_
  refine ab_iload_n (pc := 9) dX11_tells_9 rfl rfl ?_
  refine ab_iload_n (pc := 10) dX11_tells_10 rfl rfl ?_
  obtain ⟨o3, hD⟩ := hD
  refine mo_invv (N := mX11_sends) (pc := 11) (d' := 3) (av := [_, _]) dX11_tells_11 ml_X11_57 fv_X11_sends (Nat.le_of_ble_eq_true rfl) (by decide) (c_sends _ _ _ o3) ?_
  refine mo_vr (pc := 14) dX11_tells_14 rfl ?_
  first | rfl | (rw [Ftells]; done) | (rw [Ftells]; rfl)
def Fstarts  (m : mD) : mD :=
  let m1 := ab_up m 0 23 (nI (1))
  let m2 := ab_up m1 0 24 (nI (0))
  let m3 := ab_up m2 0 25 ((m2 0 25) + (nI (1)))
  let m4 := ab_up m3 0 26 (nI (0))
  let m5 := ab_up m4 0 27 (nI (0))
  let m6 := ab_up m5 2 1 (nI (0))
  let m7 := ab_up m6 0 33 (nI (0))
  let z9 := Fdrafts (nI (42)) (m7 0 25) (nI (0)) m7
  let z11 := Fsends 0 2 z9
  z11
def Dstarts  (m : mD) : Prop :=
  let m1 := ab_up m 0 23 (nI (1))
  let m2 := ab_up m1 0 24 (nI (0))
  let m3 := ab_up m2 0 25 ((m2 0 25) + (nI (1)))
  let m4 := ab_up m3 0 26 (nI (0))
  let m5 := ab_up m4 0 27 (nI (0))
  let m6 := ab_up m5 2 1 (nI (0))
  let m7 := ab_up m6 0 33 (nI (0))
  (Ddrafts (nI (42)) (m7 0 25) (nI (0)) m7) ∧
  let z9 := Fdrafts (nI (42)) (m7 0 25) (nI (0)) m7
  (Dsends 0 2 z9) ∧
  let z11 := Fsends 0 2 z9
  True
set_option maxRecDepth 100000 in
set_option maxHeartbeats 4000000 in
theorem c_starts {tt : Prop}  (m : mD) (hD : Dstarts  m) : ab_Met mX11_starts 4 0 0 tt [.ref (0)] (sM m) (mQv (Fstarts  m)) := by
  refine ab_Met.of rfl (Nat.le_of_ble_eq_true rfl) ?_
  show mV mX11_starts 4 tt (mQv (Fstarts  m)) 0 [some (.ref (0))] [] m
  refine ab_aload_n (pc := 0) dX11_starts_0 rfl rfl ?_
  refine ab_iconst (pc := 1) (v := nI 1) dX11_starts_1 (by decide) ?_
  refine mo_pi (pc := 2) dX11_starts_2 fl_X11_15 rfl rfl (ab_ok_b (Or.inr rfl)) ?_
  refine ab_aload_n (pc := 5) dX11_starts_5 rfl rfl ?_
  refine ab_iconst (pc := 6) (v := nI 0) dX11_starts_6 (by decide) ?_
  refine mo_pi (pc := 7) dX11_starts_7 fl_X11_119 rfl rfl (ab_ok_b (Or.inl rfl)) ?_
  refine ab_aload_n (pc := 10) dX11_starts_10 rfl rfl ?_
  refine ab_dup (pc := 11) dX11_starts_11 rfl ?_
  refine mo_gi (pc := 12) dX11_starts_12 fl_X11_35 rfl ?_
  refine ab_iconst (pc := 15) (v := nI 1) dX11_starts_15 (by decide) ?_
  refine ab_iadd (pc := 16) dX11_starts_16 ?_
  refine mo_pi (pc := 17) dX11_starts_17 fl_X11_35 rfl rfl (ab_ok_i _) ?_
  refine ab_aload_n (pc := 20) dX11_starts_20 rfl rfl ?_
  refine ab_iconst (pc := 21) (v := nI 0) dX11_starts_21 (by decide) ?_
  refine mo_pi (pc := 22) dX11_starts_22 fl_X11_125 rfl rfl (ab_ok_i _) ?_
  refine ab_aload_n (pc := 25) dX11_starts_25 rfl rfl ?_
  refine ab_iconst (pc := 26) (v := nI 0) dX11_starts_26 (by decide) ?_
  refine mo_pi (pc := 27) dX11_starts_27 fl_X11_122 rfl rfl (ab_ok_i _) ?_
  refine ab_aload_n (pc := 30) dX11_starts_30 rfl rfl ?_
  refine mo_gr (pc := 31) dX11_starts_31 fl_X11_38 rfl rfl ?_
  refine ab_iconst (pc := 34) (v := nI 1) dX11_starts_34 (by decide) ?_
  refine ab_iconst (pc := 35) (v := nI 0) dX11_starts_35 (by decide) ?_
  refine mo_ist (pc := 36) dX11_starts_36 (by decide) rfl (by decide) (by decide) ?_
  refine ab_aload_n (pc := 37) dX11_starts_37 rfl rfl ?_
  refine ab_iconst (pc := 38) (v := nI 0) dX11_starts_38 (by decide) ?_
  refine mo_pi (pc := 39) dX11_starts_39 fl_X11_146 rfl rfl (ab_ok_b (Or.inl rfl)) ?_
  refine ab_aload_n (pc := 42) dX11_starts_42 rfl rfl ?_
  refine ab_bipush (pc := 43) (v := nI 42) dX11_starts_43 (by decide) ?_
  refine ab_aload_n (pc := 45) dX11_starts_45 rfl rfl ?_
  refine mo_gi (pc := 46) dX11_starts_46 fl_X11_35 rfl ?_
  refine ab_iconst (pc := 49) (v := nI 0) dX11_starts_49 (by decide) ?_
  obtain ⟨o8, hD⟩ := hD
  refine mo_invv (N := mX11_drafts) (pc := 50) (d' := 0) (av := [_, _, _]) dX11_starts_50 ml_X11_152 fv_X11_drafts (Nat.le_of_ble_eq_true rfl) (by decide) (c_drafts _ _ _ _ o8) ?_
  refine ab_aload_n (pc := 53) dX11_starts_53 rfl rfl ?_
  refine ab_iconst (pc := 54) (v := nI 0) dX11_starts_54 (by decide) ?_
  refine ab_iconst (pc := 55) (v := nI 2) dX11_starts_55 (by decide) ?_
  obtain ⟨o10, hD⟩ := hD
  refine mo_invv (N := mX11_sends) (pc := 56) (d' := 3) (av := [_, _]) dX11_starts_56 ml_X11_57 fv_X11_sends (Nat.le_of_ble_eq_true rfl) (by decide) (c_sends _ _ _ o10) ?_
  refine mo_vr (pc := 59) dX11_starts_59 rfl ?_
  first | rfl | (rw [Fstarts]; done) | (rw [Fstarts]; rfl)
def Fkeeper  (m : mD) : mD :=
  let m1 := ab_up m 0 31 ((m 0 31) + (nI (1)))
  let z3 := FsendsAgain 0 m1
  if (z3.1) = 0 then
    if (z3.2 0 23) = 0 then
      let m38 := ab_up z3.2 0 32 ((z3.2 0 32) + (nI (1)))
      if (m38 0 32) = (nI (3)) then
        let z40 := Fstarts  m38
        z40
      else
        m38
    else
      if (nI ((z3.2 2 0).toNatClampNeg)) ≤ 0 then
        if ((z3.2 0 31) - (z3.2 0 31) / (nI (10)) * (nI (10))) = 0 then
          if (z3.2 0 33) = 0 then
            let m5 := ab_up z3.2 0 33 (nI (1))
            let z7 := Fdrafts (nI (40)) (nI (0)) (nI (0)) m5
            let z9 := Fsends 0 1 z7
            z9
          else
            let z10 := FcrashesNow  z3.2
            let m11 := ab_up z10 0 33 (nI (0))
            m11
        else
          z3.2
      else
        let z13 := FtakeOut 0 0 z3.2
        if (z13 6 1) = 0 then
          z13
        else
          if (z13 0 33) = 0 then
            let m14 := ab_up z13 0 33 (nI (0))
            if ((m14 0 31) - (m14 0 31) / (nI (10)) * (nI (10))) = 0 then
              if (m14 0 33) = 0 then
                let m15 := ab_up m14 0 33 (nI (1))
                let z17 := Fdrafts (nI (40)) (nI (0)) (nI (0)) m15
                let z19 := Fsends 0 1 z17
                z19
              else
                let z20 := FcrashesNow  m14
                let m21 := ab_up z20 0 33 (nI (0))
                m21
            else
              m14
          else
            if (z13 6 1) = (nI (41)) then
              let m22 := ab_up z13 0 33 (nI (0))
              if ((m22 0 31) - (m22 0 31) / (nI (10)) * (nI (10))) = 0 then
                if (m22 0 33) = 0 then
                  let m23 := ab_up m22 0 33 (nI (1))
                  let z25 := Fdrafts (nI (40)) (nI (0)) (nI (0)) m23
                  let z27 := Fsends 0 1 z25
                  z27
                else
                  let z28 := FcrashesNow  m22
                  let m29 := ab_up z28 0 33 (nI (0))
                  m29
              else
                m22
            else
              let m30 := ab_up z13 0 33 (nI (1))
              if ((m30 0 31) - (m30 0 31) / (nI (10)) * (nI (10))) = 0 then
                if (m30 0 33) = 0 then
                  let m31 := ab_up m30 0 33 (nI (1))
                  let z33 := Fdrafts (nI (40)) (nI (0)) (nI (0)) m31
                  let z35 := Fsends 0 1 z33
                  z35
                else
                  let z36 := FcrashesNow  m30
                  let m37 := ab_up z36 0 33 (nI (0))
                  m37
              else
                m30
  else
    z3.2
def Dkeeper  (m : mD) : Prop :=
  let m1 := ab_up m 0 31 ((m 0 31) + (nI (1)))
  (DsendsAgain 0 m1) ∧
  let z3 := FsendsAgain 0 m1
  (((z3.1) = 0) →
    (((z3.2 0 23) = 0) →
      let m38 := ab_up z3.2 0 32 ((z3.2 0 32) + (nI (1)))
      (((m38 0 32) = (nI (3))) →
        (Dstarts  m38) ∧
        let z40 := Fstarts  m38
        True) ∧
      (¬ ((m38 0 32) = (nI (3))) →
        True)) ∧
    (¬ ((z3.2 0 23) = 0) →
      (¬ (z3.2 2 0) < 0) ∧
      (((nI ((z3.2 2 0).toNatClampNeg)) ≤ 0) →
        ((((z3.2 0 31) - (z3.2 0 31) / (nI (10)) * (nI (10))) = 0) →
          (((z3.2 0 33) = 0) →
            let m5 := ab_up z3.2 0 33 (nI (1))
            (Ddrafts (nI (40)) (nI (0)) (nI (0)) m5) ∧
            let z7 := Fdrafts (nI (40)) (nI (0)) (nI (0)) m5
            (Dsends 0 1 z7) ∧
            let z9 := Fsends 0 1 z7
            True) ∧
          (¬ ((z3.2 0 33) = 0) →
            True)) ∧
        (¬ (((z3.2 0 31) - (z3.2 0 31) / (nI (10)) * (nI (10))) = 0) →
          True)) ∧
      (¬ ((nI ((z3.2 2 0).toNatClampNeg)) ≤ 0) →
        (DtakeOut 0 0 z3.2) ∧
        let z13 := FtakeOut 0 0 z3.2
        (((z13 6 1) = 0) →
          True) ∧
        (¬ ((z13 6 1) = 0) →
          (((z13 0 33) = 0) →
            let m14 := ab_up z13 0 33 (nI (0))
            ((((m14 0 31) - (m14 0 31) / (nI (10)) * (nI (10))) = 0) →
              (((m14 0 33) = 0) →
                let m15 := ab_up m14 0 33 (nI (1))
                (Ddrafts (nI (40)) (nI (0)) (nI (0)) m15) ∧
                let z17 := Fdrafts (nI (40)) (nI (0)) (nI (0)) m15
                (Dsends 0 1 z17) ∧
                let z19 := Fsends 0 1 z17
                True) ∧
              (¬ ((m14 0 33) = 0) →
                True)) ∧
            (¬ (((m14 0 31) - (m14 0 31) / (nI (10)) * (nI (10))) = 0) →
              True)) ∧
          (¬ ((z13 0 33) = 0) →
            (((z13 6 1) = (nI (41))) →
              let m22 := ab_up z13 0 33 (nI (0))
              ((((m22 0 31) - (m22 0 31) / (nI (10)) * (nI (10))) = 0) →
                (((m22 0 33) = 0) →
                  let m23 := ab_up m22 0 33 (nI (1))
                  (Ddrafts (nI (40)) (nI (0)) (nI (0)) m23) ∧
                  let z25 := Fdrafts (nI (40)) (nI (0)) (nI (0)) m23
                  (Dsends 0 1 z25) ∧
                  let z27 := Fsends 0 1 z25
                  True) ∧
                (¬ ((m22 0 33) = 0) →
                  True)) ∧
              (¬ (((m22 0 31) - (m22 0 31) / (nI (10)) * (nI (10))) = 0) →
                True)) ∧
            (¬ ((z13 6 1) = (nI (41))) →
              let m30 := ab_up z13 0 33 (nI (1))
              ((((m30 0 31) - (m30 0 31) / (nI (10)) * (nI (10))) = 0) →
                (((m30 0 33) = 0) →
                  let m31 := ab_up m30 0 33 (nI (1))
                  (Ddrafts (nI (40)) (nI (0)) (nI (0)) m31) ∧
                  let z33 := Fdrafts (nI (40)) (nI (0)) (nI (0)) m31
                  (Dsends 0 1 z33) ∧
                  let z35 := Fsends 0 1 z33
                  True) ∧
                (¬ ((m30 0 33) = 0) →
                  True)) ∧
              (¬ (((m30 0 31) - (m30 0 31) / (nI (10)) * (nI (10))) = 0) →
                True))))))) ∧
  (¬ ((z3.1) = 0) →
    True)
set_option maxRecDepth 100000 in
set_option maxHeartbeats 4000000 in
theorem c_keeper {tt : Prop}  (m : mD) (hD : Dkeeper  m) : ab_Met mX11_keeper 5 0 0 tt [.ref (0)] (sM m) (mQv (Fkeeper  m)) := by
  refine ab_Met.of rfl (Nat.le_of_ble_eq_true rfl) ?_
  show mV mX11_keeper 5 tt (mQv (Fkeeper  m)) 0 [some (.ref (0))] [] m
  refine ab_aload_n (pc := 0) dX11_keeper_0 rfl rfl ?_
  refine ab_dup (pc := 1) dX11_keeper_1 rfl ?_
  refine mo_gi (pc := 2) dX11_keeper_2 fl_X11_134 rfl ?_
  refine ab_iconst (pc := 5) (v := nI 1) dX11_keeper_5 (by decide) ?_
  refine ab_iadd (pc := 6) dX11_keeper_6 ?_
  refine mo_pi (pc := 7) dX11_keeper_7 fl_X11_134 rfl rfl (ab_ok_i _) ?_
  refine ab_aload_n (pc := 10) dX11_keeper_10 rfl rfl ?_
  refine ab_iconst (pc := 11) (v := nI 0) dX11_keeper_11 (by decide) ?_
  obtain ⟨o2, hD⟩ := hD
  refine mo_invi (N := mX11_sendsAgain) (pc := 12) (d' := 4) (av := [_]) dX11_keeper_12 ml_X11_137 fv_X11_sendsAgain (Nat.le_of_ble_eq_true rfl) (by decide) (c_sendsAgain _ _ o2) ?_
  refine ab_if_eq (pc := 15) (tgt := 19) dX11_keeper_15 (by decide) (fun c_15 => ?_) (fun c_15 => ?_)
  · replace hD := hD.1 c_15
    refine ab_aload_n (pc := 19) dX11_keeper_19 rfl rfl ?_
    refine mo_gi (pc := 20) dX11_keeper_20 fl_X11_15 rfl ?_
    refine ab_if_ne (pc := 23) (tgt := 49) dX11_keeper_23 (by decide) (fun c_23 => ?_) (fun c_23 => ?_)
    · replace hD := hD.2 c_23
      refine ab_aload_n (pc := 49) dX11_keeper_49 rfl rfl ?_
      refine mo_gr (pc := 50) dX11_keeper_50 fl_X11_38 rfl rfl ?_
      refine ab_iconst (pc := 53) (v := nI 0) dX11_keeper_53 (by decide) ?_
      refine mo_ild (pc := 54) dX11_keeper_54 (by decide) rfl (by decide) (by decide) ?_
      obtain ⟨o4, hD⟩ := hD
      refine ab_nat1 (ab_nat o4) ?_
      refine ab_if_le (pc := 55) (tgt := 101) dX11_keeper_55 (by decide) (fun c_55 => ?_) (fun c_55 => ?_)
      · replace hD := hD.1 c_55
        refine ab_aload_n (pc := 101) dX11_keeper_101 rfl rfl ?_
        refine mo_gi (pc := 102) dX11_keeper_102 fl_X11_134 rfl ?_
        refine ab_bipush (pc := 105) (v := nI 10) dX11_keeper_105 (by decide) ?_
        refine ab_irem (pc := 107) dX11_keeper_107 (by decide) ?_
        refine ab_if_eq (pc := 108) (tgt := 112) dX11_keeper_108 (by decide) (fun c_108 => ?_) (fun c_108 => ?_)
        · replace hD := hD.1 c_108
          refine ab_aload_n (pc := 112) dX11_keeper_112 rfl rfl ?_
          refine mo_gi (pc := 113) dX11_keeper_113 fl_X11_146 rfl ?_
          refine ab_if_eq (pc := 116) (tgt := 131) dX11_keeper_116 (by decide) (fun c_116 => ?_) (fun c_116 => ?_)
          · replace hD := hD.1 c_116
            refine ab_aload_n (pc := 131) dX11_keeper_131 rfl rfl ?_
            refine ab_iconst (pc := 132) (v := nI 1) dX11_keeper_132 (by decide) ?_
            refine mo_pi (pc := 133) dX11_keeper_133 fl_X11_146 rfl rfl (ab_ok_b (Or.inr rfl)) ?_
            refine ab_aload_n (pc := 136) dX11_keeper_136 rfl rfl ?_
            refine ab_bipush (pc := 137) (v := nI 40) dX11_keeper_137 (by decide) ?_
            refine ab_iconst (pc := 139) (v := nI 0) dX11_keeper_139 (by decide) ?_
            refine ab_iconst (pc := 140) (v := nI 0) dX11_keeper_140 (by decide) ?_
            obtain ⟨o6, hD⟩ := hD
            refine mo_invv (N := mX11_drafts) (pc := 141) (d' := 0) (av := [_, _, _]) dX11_keeper_141 ml_X11_152 fv_X11_drafts (Nat.le_of_ble_eq_true rfl) (by decide) (c_drafts _ _ _ _ o6) ?_
            refine ab_aload_n (pc := 144) dX11_keeper_144 rfl rfl ?_
            refine ab_iconst (pc := 145) (v := nI 0) dX11_keeper_145 (by decide) ?_
            refine ab_iconst (pc := 146) (v := nI 1) dX11_keeper_146 (by decide) ?_
            obtain ⟨o8, hD⟩ := hD
            refine mo_invv (N := mX11_sends) (pc := 147) (d' := 3) (av := [_, _]) dX11_keeper_147 ml_X11_57 fv_X11_sends (Nat.le_of_ble_eq_true rfl) (by decide) (c_sends _ _ _ o8) ?_
            refine mo_vr (pc := 150) dX11_keeper_150 rfl ?_
            first | (rw [Fkeeper]; (try dsimp only); rw [if_pos c_15, if_neg c_23, if_pos c_55, if_pos c_108, if_pos c_116]; done) | (rw [Fkeeper]; (try dsimp only); rw [if_pos c_15, if_neg c_23, if_pos c_55, if_pos c_108, if_pos c_116]; rfl)
          · refine ab_aload_n (pc := 119) dX11_keeper_119 rfl rfl ?_
            refine mo_invv (N := mX11_crashesNow) (pc := 120) (d' := 0) (av := []) dX11_keeper_120 ml_X11_149 fv_X11_crashesNow (Nat.le_of_ble_eq_true rfl) (by decide) (c_crashesNow  _ trivial) ?_
            refine ab_aload_n (pc := 123) dX11_keeper_123 rfl rfl ?_
            refine ab_iconst (pc := 124) (v := nI 0) dX11_keeper_124 (by decide) ?_
            refine mo_pi (pc := 125) dX11_keeper_125 fl_X11_146 rfl rfl (ab_ok_b (Or.inl rfl)) ?_
            refine ab_goto (pc := 128) (tgt := 150) dX11_keeper_128 (by decide) ?_
            refine mo_vr (pc := 150) dX11_keeper_150 rfl ?_
            first | (rw [Fkeeper]; (try dsimp only); rw [if_pos c_15, if_neg c_23, if_pos c_55, if_pos c_108, if_neg c_116]; done) | (rw [Fkeeper]; (try dsimp only); rw [if_pos c_15, if_neg c_23, if_pos c_55, if_pos c_108, if_neg c_116]; rfl)
        · refine mo_vr (pc := 111) dX11_keeper_111 rfl ?_
          first | (rw [Fkeeper]; (try dsimp only); rw [if_pos c_15, if_neg c_23, if_pos c_55, if_neg c_108]; done) | (rw [Fkeeper]; (try dsimp only); rw [if_pos c_15, if_neg c_23, if_pos c_55, if_neg c_108]; rfl)
      · replace hD := hD.2 c_55
        refine ab_aload_n (pc := 58) dX11_keeper_58 rfl rfl ?_
        refine ab_iconst (pc := 59) (v := nI 0) dX11_keeper_59 (by decide) ?_
        refine ab_iconst (pc := 60) (v := nI 0) dX11_keeper_60 (by decide) ?_
        obtain ⟨o12, hD⟩ := hD
        refine mo_invv (N := mX11_takeOut) (pc := 61) (d' := 1) (av := [_, _]) dX11_keeper_61 ml_X11_143 fv_X11_takeOut (Nat.le_of_ble_eq_true rfl) (by decide) (c_takeOut _ _ _ o12) ?_
        refine ab_aload_n (pc := 64) dX11_keeper_64 rfl rfl ?_
        refine mo_gr (pc := 65) dX11_keeper_65 fl_X11_61 rfl rfl ?_
        refine ab_iconst (pc := 68) (v := nI 1) dX11_keeper_68 (by decide) ?_
        refine mo_ild (pc := 69) dX11_keeper_69 (by decide) rfl (by decide) (by decide) ?_
        refine ab_if_ne (pc := 70) (tgt := 74) dX11_keeper_70 (by decide) (fun c_70 => ?_) (fun c_70 => ?_)
        · replace hD := hD.2 c_70
          refine ab_aload_n (pc := 74) dX11_keeper_74 rfl rfl ?_
          refine ab_aload_n (pc := 75) dX11_keeper_75 rfl rfl ?_
          refine mo_gi (pc := 76) dX11_keeper_76 fl_X11_146 rfl ?_
          refine ab_if_eq (pc := 79) (tgt := 97) dX11_keeper_79 (by decide) (fun c_79 => ?_) (fun c_79 => ?_)
          · replace hD := hD.1 c_79
            refine ab_iconst (pc := 97) (v := nI 0) dX11_keeper_97 (by decide) ?_
            refine mo_pi (pc := 98) dX11_keeper_98 fl_X11_146 rfl rfl (ab_ok_b (Or.inl rfl)) ?_
            refine ab_aload_n (pc := 101) dX11_keeper_101 rfl rfl ?_
            refine mo_gi (pc := 102) dX11_keeper_102 fl_X11_134 rfl ?_
            refine ab_bipush (pc := 105) (v := nI 10) dX11_keeper_105 (by decide) ?_
            refine ab_irem (pc := 107) dX11_keeper_107 (by decide) ?_
            refine ab_if_eq (pc := 108) (tgt := 112) dX11_keeper_108 (by decide) (fun c_108 => ?_) (fun c_108 => ?_)
            · replace hD := hD.1 c_108
              refine ab_aload_n (pc := 112) dX11_keeper_112 rfl rfl ?_
              refine mo_gi (pc := 113) dX11_keeper_113 fl_X11_146 rfl ?_
              refine ab_if_eq (pc := 116) (tgt := 131) dX11_keeper_116 (by decide) (fun c_116 => ?_) (fun c_116 => ?_)
              · replace hD := hD.1 c_116
                refine ab_aload_n (pc := 131) dX11_keeper_131 rfl rfl ?_
                refine ab_iconst (pc := 132) (v := nI 1) dX11_keeper_132 (by decide) ?_
                refine mo_pi (pc := 133) dX11_keeper_133 fl_X11_146 rfl rfl (ab_ok_b (Or.inr rfl)) ?_
                refine ab_aload_n (pc := 136) dX11_keeper_136 rfl rfl ?_
                refine ab_bipush (pc := 137) (v := nI 40) dX11_keeper_137 (by decide) ?_
                refine ab_iconst (pc := 139) (v := nI 0) dX11_keeper_139 (by decide) ?_
                refine ab_iconst (pc := 140) (v := nI 0) dX11_keeper_140 (by decide) ?_
                obtain ⟨o16, hD⟩ := hD
                refine mo_invv (N := mX11_drafts) (pc := 141) (d' := 0) (av := [_, _, _]) dX11_keeper_141 ml_X11_152 fv_X11_drafts (Nat.le_of_ble_eq_true rfl) (by decide) (c_drafts _ _ _ _ o16) ?_
                refine ab_aload_n (pc := 144) dX11_keeper_144 rfl rfl ?_
                refine ab_iconst (pc := 145) (v := nI 0) dX11_keeper_145 (by decide) ?_
                refine ab_iconst (pc := 146) (v := nI 1) dX11_keeper_146 (by decide) ?_
                obtain ⟨o18, hD⟩ := hD
                refine mo_invv (N := mX11_sends) (pc := 147) (d' := 3) (av := [_, _]) dX11_keeper_147 ml_X11_57 fv_X11_sends (Nat.le_of_ble_eq_true rfl) (by decide) (c_sends _ _ _ o18) ?_
                refine mo_vr (pc := 150) dX11_keeper_150 rfl ?_
                first | (rw [Fkeeper]; (try dsimp only); rw [if_pos c_15, if_neg c_23, if_neg c_55, if_neg c_70, if_pos c_79, if_pos c_108, if_pos c_116]; done) | (rw [Fkeeper]; (try dsimp only); rw [if_pos c_15, if_neg c_23, if_neg c_55, if_neg c_70, if_pos c_79, if_pos c_108, if_pos c_116]; rfl)
              · refine ab_aload_n (pc := 119) dX11_keeper_119 rfl rfl ?_
                refine mo_invv (N := mX11_crashesNow) (pc := 120) (d' := 0) (av := []) dX11_keeper_120 ml_X11_149 fv_X11_crashesNow (Nat.le_of_ble_eq_true rfl) (by decide) (c_crashesNow  _ trivial) ?_
                refine ab_aload_n (pc := 123) dX11_keeper_123 rfl rfl ?_
                refine ab_iconst (pc := 124) (v := nI 0) dX11_keeper_124 (by decide) ?_
                refine mo_pi (pc := 125) dX11_keeper_125 fl_X11_146 rfl rfl (ab_ok_b (Or.inl rfl)) ?_
                refine ab_goto (pc := 128) (tgt := 150) dX11_keeper_128 (by decide) ?_
                refine mo_vr (pc := 150) dX11_keeper_150 rfl ?_
                first | (rw [Fkeeper]; (try dsimp only); rw [if_pos c_15, if_neg c_23, if_neg c_55, if_neg c_70, if_pos c_79, if_pos c_108, if_neg c_116]; done) | (rw [Fkeeper]; (try dsimp only); rw [if_pos c_15, if_neg c_23, if_neg c_55, if_neg c_70, if_pos c_79, if_pos c_108, if_neg c_116]; rfl)
            · refine mo_vr (pc := 111) dX11_keeper_111 rfl ?_
              first | (rw [Fkeeper]; (try dsimp only); rw [if_pos c_15, if_neg c_23, if_neg c_55, if_neg c_70, if_pos c_79, if_neg c_108]; done) | (rw [Fkeeper]; (try dsimp only); rw [if_pos c_15, if_neg c_23, if_neg c_55, if_neg c_70, if_pos c_79, if_neg c_108]; rfl)
          · replace hD := hD.2 c_79
            refine ab_aload_n (pc := 82) dX11_keeper_82 rfl rfl ?_
            refine mo_gr (pc := 83) dX11_keeper_83 fl_X11_61 rfl rfl ?_
            refine ab_iconst (pc := 86) (v := nI 1) dX11_keeper_86 (by decide) ?_
            refine mo_ild (pc := 87) dX11_keeper_87 (by decide) rfl (by decide) (by decide) ?_
            refine ab_bipush (pc := 88) (v := nI 41) dX11_keeper_88 (by decide) ?_
            refine ab_icmp_eq (pc := 90) (tgt := 97) dX11_keeper_90 (by decide) (fun c_90 => ?_) (fun c_90 => ?_)
            · replace hD := hD.1 c_90
              refine ab_iconst (pc := 97) (v := nI 0) dX11_keeper_97 (by decide) ?_
              refine mo_pi (pc := 98) dX11_keeper_98 fl_X11_146 rfl rfl (ab_ok_b (Or.inl rfl)) ?_
              refine ab_aload_n (pc := 101) dX11_keeper_101 rfl rfl ?_
              refine mo_gi (pc := 102) dX11_keeper_102 fl_X11_134 rfl ?_
              refine ab_bipush (pc := 105) (v := nI 10) dX11_keeper_105 (by decide) ?_
              refine ab_irem (pc := 107) dX11_keeper_107 (by decide) ?_
              refine ab_if_eq (pc := 108) (tgt := 112) dX11_keeper_108 (by decide) (fun c_108 => ?_) (fun c_108 => ?_)
              · replace hD := hD.1 c_108
                refine ab_aload_n (pc := 112) dX11_keeper_112 rfl rfl ?_
                refine mo_gi (pc := 113) dX11_keeper_113 fl_X11_146 rfl ?_
                refine ab_if_eq (pc := 116) (tgt := 131) dX11_keeper_116 (by decide) (fun c_116 => ?_) (fun c_116 => ?_)
                · replace hD := hD.1 c_116
                  refine ab_aload_n (pc := 131) dX11_keeper_131 rfl rfl ?_
                  refine ab_iconst (pc := 132) (v := nI 1) dX11_keeper_132 (by decide) ?_
                  refine mo_pi (pc := 133) dX11_keeper_133 fl_X11_146 rfl rfl (ab_ok_b (Or.inr rfl)) ?_
                  refine ab_aload_n (pc := 136) dX11_keeper_136 rfl rfl ?_
                  refine ab_bipush (pc := 137) (v := nI 40) dX11_keeper_137 (by decide) ?_
                  refine ab_iconst (pc := 139) (v := nI 0) dX11_keeper_139 (by decide) ?_
                  refine ab_iconst (pc := 140) (v := nI 0) dX11_keeper_140 (by decide) ?_
                  obtain ⟨o24, hD⟩ := hD
                  refine mo_invv (N := mX11_drafts) (pc := 141) (d' := 0) (av := [_, _, _]) dX11_keeper_141 ml_X11_152 fv_X11_drafts (Nat.le_of_ble_eq_true rfl) (by decide) (c_drafts _ _ _ _ o24) ?_
                  refine ab_aload_n (pc := 144) dX11_keeper_144 rfl rfl ?_
                  refine ab_iconst (pc := 145) (v := nI 0) dX11_keeper_145 (by decide) ?_
                  refine ab_iconst (pc := 146) (v := nI 1) dX11_keeper_146 (by decide) ?_
                  obtain ⟨o26, hD⟩ := hD
                  refine mo_invv (N := mX11_sends) (pc := 147) (d' := 3) (av := [_, _]) dX11_keeper_147 ml_X11_57 fv_X11_sends (Nat.le_of_ble_eq_true rfl) (by decide) (c_sends _ _ _ o26) ?_
                  refine mo_vr (pc := 150) dX11_keeper_150 rfl ?_
                  first | (rw [Fkeeper]; (try dsimp only); rw [if_pos c_15, if_neg c_23, if_neg c_55, if_neg c_70, if_neg c_79, if_pos c_90, if_pos c_108, if_pos c_116]; done) | (rw [Fkeeper]; (try dsimp only); rw [if_pos c_15, if_neg c_23, if_neg c_55, if_neg c_70, if_neg c_79, if_pos c_90, if_pos c_108, if_pos c_116]; rfl)
                · refine ab_aload_n (pc := 119) dX11_keeper_119 rfl rfl ?_
                  refine mo_invv (N := mX11_crashesNow) (pc := 120) (d' := 0) (av := []) dX11_keeper_120 ml_X11_149 fv_X11_crashesNow (Nat.le_of_ble_eq_true rfl) (by decide) (c_crashesNow  _ trivial) ?_
                  refine ab_aload_n (pc := 123) dX11_keeper_123 rfl rfl ?_
                  refine ab_iconst (pc := 124) (v := nI 0) dX11_keeper_124 (by decide) ?_
                  refine mo_pi (pc := 125) dX11_keeper_125 fl_X11_146 rfl rfl (ab_ok_b (Or.inl rfl)) ?_
                  refine ab_goto (pc := 128) (tgt := 150) dX11_keeper_128 (by decide) ?_
                  refine mo_vr (pc := 150) dX11_keeper_150 rfl ?_
                  first | (rw [Fkeeper]; (try dsimp only); rw [if_pos c_15, if_neg c_23, if_neg c_55, if_neg c_70, if_neg c_79, if_pos c_90, if_pos c_108, if_neg c_116]; done) | (rw [Fkeeper]; (try dsimp only); rw [if_pos c_15, if_neg c_23, if_neg c_55, if_neg c_70, if_neg c_79, if_pos c_90, if_pos c_108, if_neg c_116]; rfl)
              · refine mo_vr (pc := 111) dX11_keeper_111 rfl ?_
                first | (rw [Fkeeper]; (try dsimp only); rw [if_pos c_15, if_neg c_23, if_neg c_55, if_neg c_70, if_neg c_79, if_pos c_90, if_neg c_108]; done) | (rw [Fkeeper]; (try dsimp only); rw [if_pos c_15, if_neg c_23, if_neg c_55, if_neg c_70, if_neg c_79, if_pos c_90, if_neg c_108]; rfl)
            · replace hD := hD.2 c_90
              refine ab_iconst (pc := 93) (v := nI 1) dX11_keeper_93 (by decide) ?_
              refine ab_goto (pc := 94) (tgt := 98) dX11_keeper_94 (by decide) ?_
              refine mo_pi (pc := 98) dX11_keeper_98 fl_X11_146 rfl rfl (ab_ok_b (Or.inr rfl)) ?_
              refine ab_aload_n (pc := 101) dX11_keeper_101 rfl rfl ?_
              refine mo_gi (pc := 102) dX11_keeper_102 fl_X11_134 rfl ?_
              refine ab_bipush (pc := 105) (v := nI 10) dX11_keeper_105 (by decide) ?_
              refine ab_irem (pc := 107) dX11_keeper_107 (by decide) ?_
              refine ab_if_eq (pc := 108) (tgt := 112) dX11_keeper_108 (by decide) (fun c_108 => ?_) (fun c_108 => ?_)
              · replace hD := hD.1 c_108
                refine ab_aload_n (pc := 112) dX11_keeper_112 rfl rfl ?_
                refine mo_gi (pc := 113) dX11_keeper_113 fl_X11_146 rfl ?_
                refine ab_if_eq (pc := 116) (tgt := 131) dX11_keeper_116 (by decide) (fun c_116 => ?_) (fun c_116 => ?_)
                · replace hD := hD.1 c_116
                  refine ab_aload_n (pc := 131) dX11_keeper_131 rfl rfl ?_
                  refine ab_iconst (pc := 132) (v := nI 1) dX11_keeper_132 (by decide) ?_
                  refine mo_pi (pc := 133) dX11_keeper_133 fl_X11_146 rfl rfl (ab_ok_b (Or.inr rfl)) ?_
                  refine ab_aload_n (pc := 136) dX11_keeper_136 rfl rfl ?_
                  refine ab_bipush (pc := 137) (v := nI 40) dX11_keeper_137 (by decide) ?_
                  refine ab_iconst (pc := 139) (v := nI 0) dX11_keeper_139 (by decide) ?_
                  refine ab_iconst (pc := 140) (v := nI 0) dX11_keeper_140 (by decide) ?_
                  obtain ⟨o32, hD⟩ := hD
                  refine mo_invv (N := mX11_drafts) (pc := 141) (d' := 0) (av := [_, _, _]) dX11_keeper_141 ml_X11_152 fv_X11_drafts (Nat.le_of_ble_eq_true rfl) (by decide) (c_drafts _ _ _ _ o32) ?_
                  refine ab_aload_n (pc := 144) dX11_keeper_144 rfl rfl ?_
                  refine ab_iconst (pc := 145) (v := nI 0) dX11_keeper_145 (by decide) ?_
                  refine ab_iconst (pc := 146) (v := nI 1) dX11_keeper_146 (by decide) ?_
                  obtain ⟨o34, hD⟩ := hD
                  refine mo_invv (N := mX11_sends) (pc := 147) (d' := 3) (av := [_, _]) dX11_keeper_147 ml_X11_57 fv_X11_sends (Nat.le_of_ble_eq_true rfl) (by decide) (c_sends _ _ _ o34) ?_
                  refine mo_vr (pc := 150) dX11_keeper_150 rfl ?_
                  first | (rw [Fkeeper]; (try dsimp only); rw [if_pos c_15, if_neg c_23, if_neg c_55, if_neg c_70, if_neg c_79, if_neg c_90, if_pos c_108, if_pos c_116]; done) | (rw [Fkeeper]; (try dsimp only); rw [if_pos c_15, if_neg c_23, if_neg c_55, if_neg c_70, if_neg c_79, if_neg c_90, if_pos c_108, if_pos c_116]; rfl)
                · refine ab_aload_n (pc := 119) dX11_keeper_119 rfl rfl ?_
                  refine mo_invv (N := mX11_crashesNow) (pc := 120) (d' := 0) (av := []) dX11_keeper_120 ml_X11_149 fv_X11_crashesNow (Nat.le_of_ble_eq_true rfl) (by decide) (c_crashesNow  _ trivial) ?_
                  refine ab_aload_n (pc := 123) dX11_keeper_123 rfl rfl ?_
                  refine ab_iconst (pc := 124) (v := nI 0) dX11_keeper_124 (by decide) ?_
                  refine mo_pi (pc := 125) dX11_keeper_125 fl_X11_146 rfl rfl (ab_ok_b (Or.inl rfl)) ?_
                  refine ab_goto (pc := 128) (tgt := 150) dX11_keeper_128 (by decide) ?_
                  refine mo_vr (pc := 150) dX11_keeper_150 rfl ?_
                  first | (rw [Fkeeper]; (try dsimp only); rw [if_pos c_15, if_neg c_23, if_neg c_55, if_neg c_70, if_neg c_79, if_neg c_90, if_pos c_108, if_neg c_116]; done) | (rw [Fkeeper]; (try dsimp only); rw [if_pos c_15, if_neg c_23, if_neg c_55, if_neg c_70, if_neg c_79, if_neg c_90, if_pos c_108, if_neg c_116]; rfl)
              · refine mo_vr (pc := 111) dX11_keeper_111 rfl ?_
                first | (rw [Fkeeper]; (try dsimp only); rw [if_pos c_15, if_neg c_23, if_neg c_55, if_neg c_70, if_neg c_79, if_neg c_90, if_neg c_108]; done) | (rw [Fkeeper]; (try dsimp only); rw [if_pos c_15, if_neg c_23, if_neg c_55, if_neg c_70, if_neg c_79, if_neg c_90, if_neg c_108]; rfl)
        · refine mo_vr (pc := 73) dX11_keeper_73 rfl ?_
          first | (rw [Fkeeper]; (try dsimp only); rw [if_pos c_15, if_neg c_23, if_neg c_55, if_pos c_70]; done) | (rw [Fkeeper]; (try dsimp only); rw [if_pos c_15, if_neg c_23, if_neg c_55, if_pos c_70]; rfl)
    · replace hD := hD.1 c_23
      refine ab_aload_n (pc := 26) dX11_keeper_26 rfl rfl ?_
      refine ab_dup (pc := 27) dX11_keeper_27 rfl ?_
      refine mo_gi (pc := 28) dX11_keeper_28 fl_X11_128 rfl ?_
      refine ab_iconst (pc := 31) (v := nI 1) dX11_keeper_31 (by decide) ?_
      refine ab_iadd (pc := 32) dX11_keeper_32 ?_
      refine mo_pi (pc := 33) dX11_keeper_33 fl_X11_128 rfl rfl (ab_ok_i _) ?_
      refine ab_aload_n (pc := 36) dX11_keeper_36 rfl rfl ?_
      refine mo_gi (pc := 37) dX11_keeper_37 fl_X11_128 rfl ?_
      refine ab_iconst (pc := 40) (v := nI 3) dX11_keeper_40 (by decide) ?_
      refine ab_icmp_ne (pc := 41) (tgt := 48) dX11_keeper_41 (by decide) (fun c_41 => ?_) (fun c_41 => ?_)
      · refine mo_vr (pc := 48) dX11_keeper_48 rfl ?_
        first | (rw [Fkeeper]; (try dsimp only); rw [if_pos c_15, if_pos c_23, if_neg c_41]; done) | (rw [Fkeeper]; (try dsimp only); rw [if_pos c_15, if_pos c_23, if_neg c_41]; rfl)
      · replace hD := hD.1 c_41
        refine ab_aload_n (pc := 44) dX11_keeper_44 rfl rfl ?_
        obtain ⟨o39, hD⟩ := hD
        refine mo_invv (N := mX11_starts) (pc := 45) (d' := 4) (av := []) dX11_keeper_45 ml_X11_140 fv_X11_starts (Nat.le_of_ble_eq_true rfl) (by decide) (c_starts  _ o39) ?_
        refine mo_vr (pc := 48) dX11_keeper_48 rfl ?_
        first | (rw [Fkeeper]; (try dsimp only); rw [if_pos c_15, if_pos c_23, if_pos c_41]; done) | (rw [Fkeeper]; (try dsimp only); rw [if_pos c_15, if_pos c_23, if_pos c_41]; rfl)
  · refine mo_vr (pc := 18) dX11_keeper_18 rfl ?_
    first | (rw [Fkeeper]; (try dsimp only); rw [if_neg c_15]; done) | (rw [Fkeeper]; (try dsimp only); rw [if_neg c_15]; rfl)
def Fworks_47 : Nat → Nat → mD → mD
  | 0, _, m => m
  | n + 1, a1, m =>
    if 8 ≤ a1 then
      let m8 := ab_up m 0 27 (nI (0))
      let z10 := Fsends 1 2 m8
      z10
    else
      if (m 0 27) = (nI (20)) then
        let m18 := ab_up m 3 (5 + a1) (m 20 ((8 * ((m 0 28).toNatClampNeg)) + a1))
        Fworks_47 n (a1 + 1) m18
      else
        let m14 := ab_up m 20 ((8 * ((m 0 28).toNatClampNeg)) + a1) (m 21 a1)
        Fworks_47 n (a1 + 1) m14
def Dworks_47 : Nat → Nat → mD → Prop
  | 0, _, _ => False
  | n + 1, a1, m =>
    (a1 < 2147483648) ∧
    ((8 ≤ a1) →
      let m8 := ab_up m 0 27 (nI (0))
      (Dsends 1 2 m8) ∧
      let z10 := Fsends 1 2 m8
      True) ∧
    (¬ (8 ≤ a1) →
      (((m 0 27) = (nI (20))) →
        (¬ (m 0 28) < 0) ∧
        (((8 * ((m 0 28).toNatClampNeg)) + a1) < 192) ∧
        ((5 + a1) < 13) ∧
        let m18 := ab_up m 3 (5 + a1) (m 20 ((8 * ((m 0 28).toNatClampNeg)) + a1))
        Dworks_47 n (a1 + 1) m18) ∧
      (¬ ((m 0 27) = (nI (20))) →
        (¬ (m 0 28) < 0) ∧
        (a1 < 8) ∧
        (((8 * ((m 0 28).toNatClampNeg)) + a1) < 192) ∧
        let m14 := ab_up m 20 ((8 * ((m 0 28).toNatClampNeg)) + a1) (m 21 a1)
        Dworks_47 n (a1 + 1) m14))
set_option maxRecDepth 100000 in
set_option maxHeartbeats 4000000 in
theorem w_works_47 {tt : Prop} : ∀ (n : Nat) (a1 : Nat) (m : mD) (hD : Dworks_47 n a1 m), mV mX11_works 4 tt (mQv (Fworks_47 n a1 m)) 47 [some (.ref (0)), some (.int (nI (a1)))] [] m := by
  intro n
  induction n with
  | zero => intros; rename_i hD; exact hD.elim
  | succ n ih =>
    intro a1 m hD
    refine ab_iload_n (pc := 47) dX11_works_47 rfl rfl ?_
    refine ab_bipush (pc := 48) (v := nI 8) dX11_works_48 (by decide) ?_
    obtain ⟨o7, hD⟩ := hD
    refine ab_icmp_geN (pc := 50) (tgt := 113) dX11_works_50 (by decide) o7 (by decide) (fun c_50 => ?_) (fun c_50 => ?_)
    · replace hD := hD.1 c_50
      refine ab_aload_n (pc := 113) dX11_works_113 rfl rfl ?_
      refine ab_iconst (pc := 114) (v := nI 0) dX11_works_114 (by decide) ?_
      refine mo_pi (pc := 115) dX11_works_115 fl_X11_122 rfl rfl (ab_ok_i _) ?_
      refine ab_aload_n (pc := 118) dX11_works_118 rfl rfl ?_
      refine ab_iconst (pc := 119) (v := nI 1) dX11_works_119 (by decide) ?_
      refine ab_iconst (pc := 120) (v := nI 2) dX11_works_120 (by decide) ?_
      obtain ⟨o9, hD⟩ := hD
      refine mo_invv (N := mX11_sends) (pc := 121) (d' := 3) (av := [_, _]) dX11_works_121 ml_X11_57 fv_X11_sends (Nat.le_of_ble_eq_true rfl) (by decide) (c_sends _ _ _ o9) ?_
      refine mo_vr (pc := 124) dX11_works_124 rfl ?_
      first | (rw [Fworks_47]; (try dsimp only); rw [if_pos c_50]; done) | (rw [Fworks_47]; (try dsimp only); rw [if_pos c_50]; rfl)
    · replace hD := hD.2 c_50
      refine ab_aload_n (pc := 53) dX11_works_53 rfl rfl ?_
      refine mo_gi (pc := 54) dX11_works_54 fl_X11_122 rfl ?_
      refine ab_bipush (pc := 57) (v := nI 20) dX11_works_57 (by decide) ?_
      refine ab_icmp_ne (pc := 59) (tgt := 87) dX11_works_59 (by decide) (fun c_59 => ?_) (fun c_59 => ?_)
      · replace hD := hD.2 c_59
        refine ab_aload_n (pc := 87) dX11_works_87 rfl rfl ?_
        refine mo_gr (pc := 88) dX11_works_88 fl_X11_110 rfl rfl ?_
        refine ab_bipush (pc := 91) (v := nI 8) dX11_works_91 (by decide) ?_
        refine ab_aload_n (pc := 93) dX11_works_93 rfl rfl ?_
        refine mo_gi (pc := 94) dX11_works_94 fl_X11_163 rfl ?_
        obtain ⟨o11, hD⟩ := hD
        refine ab_nat1 (ab_nat o11) ?_
        refine ab_imulN (pc := 97) dX11_works_97 ?_
        refine ab_iload_n (pc := 98) dX11_works_98 rfl rfl ?_
        refine ab_iaddN (pc := 99) dX11_works_99 ?_
        refine ab_aload_n (pc := 100) dX11_works_100 rfl rfl ?_
        refine mo_gr (pc := 101) dX11_works_101 fl_X11_113 rfl rfl ?_
        refine ab_iload_n (pc := 104) dX11_works_104 rfl rfl ?_
        obtain ⟨o12, hD⟩ := hD
        refine mo_ild (pc := 105) dX11_works_105 (by decide) rfl o12 (by decide) ?_
        obtain ⟨o13, hD⟩ := hD
        refine mo_ist (pc := 106) dX11_works_106 (by decide) rfl o13 (by decide) ?_
        refine ab_iinc (pc := 107) dX11_works_107 rfl (ab_inc _) (Nat.le_of_ble_eq_true rfl) rfl ?_
        refine ab_goto (pc := 110) (tgt := 47) dX11_works_110 (by decide) ?_
        refine mo_eqv ?_ (ih _ _ hD)
        first | (rw [Fworks_47]; (try dsimp only); rw [if_neg c_50, if_neg c_59]; done) | (rw [Fworks_47]; (try dsimp only); rw [if_neg c_50, if_neg c_59]; rfl)
      · replace hD := hD.1 c_59
        refine ab_aload_n (pc := 62) dX11_works_62 rfl rfl ?_
        refine mo_gr (pc := 63) dX11_works_63 fl_X11_7 rfl rfl ?_
        refine ab_iconst (pc := 66) (v := nI 5) dX11_works_66 (by decide) ?_
        refine ab_iload_n (pc := 67) dX11_works_67 rfl rfl ?_
        refine ab_iaddN (pc := 68) dX11_works_68 ?_
        refine ab_aload_n (pc := 69) dX11_works_69 rfl rfl ?_
        refine mo_gr (pc := 70) dX11_works_70 fl_X11_110 rfl rfl ?_
        refine ab_bipush (pc := 73) (v := nI 8) dX11_works_73 (by decide) ?_
        refine ab_aload_n (pc := 75) dX11_works_75 rfl rfl ?_
        refine mo_gi (pc := 76) dX11_works_76 fl_X11_163 rfl ?_
        obtain ⟨o15, hD⟩ := hD
        refine ab_nat1 (ab_nat o15) ?_
        refine ab_imulN (pc := 79) dX11_works_79 ?_
        refine ab_iload_n (pc := 80) dX11_works_80 rfl rfl ?_
        refine ab_iaddN (pc := 81) dX11_works_81 ?_
        obtain ⟨o16, hD⟩ := hD
        refine mo_ild (pc := 82) dX11_works_82 (by decide) rfl o16 (by decide) ?_
        obtain ⟨o17, hD⟩ := hD
        refine mo_ist (pc := 83) dX11_works_83 (by decide) rfl o17 (by decide) ?_
        refine ab_goto (pc := 84) (tgt := 107) dX11_works_84 (by decide) ?_
        refine ab_iinc (pc := 107) dX11_works_107 rfl (ab_inc _) (Nat.le_of_ble_eq_true rfl) rfl ?_
        refine ab_goto (pc := 110) (tgt := 47) dX11_works_110 (by decide) ?_
        refine mo_eqv ?_ (ih _ _ hD)
        first | (rw [Fworks_47]; (try dsimp only); rw [if_neg c_50, if_pos c_59]; done) | (rw [Fworks_47]; (try dsimp only); rw [if_neg c_50, if_pos c_59]; rfl)
def Fworks  (m : mD) : mD :=
  if (m 0 26) = (nI ((m 0 28).toNatClampNeg)) then
    let z3 := Fdrafts (nI (22)) (nI (0)) (nI (0)) m
    Fworks_47 9 0 z3
  else
    if (nI ((m 0 28).toNatClampNeg)) ≤ (m 0 26) then
      let m5 := ab_up m 0 26 ((m 0 26) + (-1))
      m5
    else
      let m6 := ab_up m 0 26 ((m 0 26) + (nI (1)))
      m6
def Dworks  (m : mD) : Prop :=
  (¬ (m 0 28) < 0) ∧
  (((m 0 26) = (nI ((m 0 28).toNatClampNeg))) →
    (Ddrafts (nI (22)) (nI (0)) (nI (0)) m) ∧
    let z3 := Fdrafts (nI (22)) (nI (0)) (nI (0)) m
    Dworks_47 9 0 z3) ∧
  (¬ ((m 0 26) = (nI ((m 0 28).toNatClampNeg))) →
    (¬ (m 0 28) < 0) ∧
    True)
set_option maxRecDepth 100000 in
set_option maxHeartbeats 4000000 in
theorem c_works {tt : Prop}  (m : mD) (hD : Dworks  m) : ab_Met mX11_works 4 0 0 tt [.ref (0)] (sM m) (mQv (Fworks  m)) := by
  refine ab_Met.of rfl (Nat.le_of_ble_eq_true rfl) ?_
  show mV mX11_works 4 tt (mQv (Fworks  m)) 0 [some (.ref (0)), none] [] m
  refine ab_aload_n (pc := 0) dX11_works_0 rfl rfl ?_
  refine mo_gi (pc := 1) dX11_works_1 fl_X11_125 rfl ?_
  refine ab_aload_n (pc := 4) dX11_works_4 rfl rfl ?_
  refine mo_gi (pc := 5) dX11_works_5 fl_X11_163 rfl ?_
  obtain ⟨o1, hD⟩ := hD
  refine ab_nat1 (ab_nat o1) ?_
  refine ab_icmp_eq (pc := 8) (tgt := 37) dX11_works_8 (by decide) (fun c_8 => ?_) (fun c_8 => ?_)
  · replace hD := hD.1 c_8
    refine ab_aload_n (pc := 37) dX11_works_37 rfl rfl ?_
    refine ab_bipush (pc := 38) (v := nI 22) dX11_works_38 (by decide) ?_
    refine ab_iconst (pc := 40) (v := nI 0) dX11_works_40 (by decide) ?_
    refine ab_iconst (pc := 41) (v := nI 0) dX11_works_41 (by decide) ?_
    obtain ⟨o2, hD⟩ := hD
    refine mo_invv (N := mX11_drafts) (pc := 42) (d' := 0) (av := [_, _, _]) dX11_works_42 ml_X11_152 fv_X11_drafts (Nat.le_of_ble_eq_true rfl) (by decide) (c_drafts _ _ _ _ o2) ?_
    refine ab_iconst (pc := 45) (v := nI 0) dX11_works_45 (by decide) ?_
    refine ab_istore_n (pc := 46) dX11_works_46 rfl (Nat.le_of_ble_eq_true rfl) rfl ?_
    refine mo_eqv ?_ (w_works_47 9 _ _ hD)
    first | (rw [Fworks]; (try dsimp only); rw [if_pos c_8]; done) | (rw [Fworks]; (try dsimp only); rw [if_pos c_8]; rfl)
  · replace hD := hD.2 c_8
    refine ab_aload_n (pc := 11) dX11_works_11 rfl rfl ?_
    refine ab_dup (pc := 12) dX11_works_12 rfl ?_
    refine mo_gi (pc := 13) dX11_works_13 fl_X11_125 rfl ?_
    refine ab_aload_n (pc := 16) dX11_works_16 rfl rfl ?_
    refine mo_gi (pc := 17) dX11_works_17 fl_X11_125 rfl ?_
    refine ab_aload_n (pc := 20) dX11_works_20 rfl rfl ?_
    refine mo_gi (pc := 21) dX11_works_21 fl_X11_163 rfl ?_
    obtain ⟨o4, hD⟩ := hD
    refine ab_nat1 (ab_nat o4) ?_
    refine ab_icmp_ge (pc := 24) (tgt := 31) dX11_works_24 (by decide) (fun c_24 => ?_) (fun c_24 => ?_)
    · refine ab_iconst (pc := 31) (v := -1) dX11_works_31 (by decide) ?_
      refine ab_iadd (pc := 32) dX11_works_32 ?_
      refine mo_pi (pc := 33) dX11_works_33 fl_X11_125 rfl rfl (ab_ok_i _) ?_
      refine mo_vr (pc := 36) dX11_works_36 rfl ?_
      first | (rw [Fworks]; (try dsimp only); rw [if_neg c_8, if_pos c_24]; done) | (rw [Fworks]; (try dsimp only); rw [if_neg c_8, if_pos c_24]; rfl)
    · refine ab_iconst (pc := 27) (v := nI 1) dX11_works_27 (by decide) ?_
      refine ab_goto (pc := 28) (tgt := 32) dX11_works_28 (by decide) ?_
      refine ab_iadd (pc := 32) dX11_works_32 ?_
      refine mo_pi (pc := 33) dX11_works_33 fl_X11_125 rfl rfl (ab_ok_i _) ?_
      refine mo_vr (pc := 36) dX11_works_36 rfl ?_
      first | (rw [Fworks]; (try dsimp only); rw [if_neg c_8, if_neg c_24]; done) | (rw [Fworks]; (try dsimp only); rw [if_neg c_8, if_neg c_24]; rfl)
def Fdriver_140 : Nat → Nat → mD → mD
  | 0, _, m => m
  | n + 1, a1, m =>
    if 8 ≤ a1 then
      m
    else
      let m25 := ab_up m 21 a1 (m 6 (5 + a1))
      Fdriver_140 n (a1 + 1) m25
def Ddriver_140 : Nat → Nat → mD → Prop
  | 0, _, _ => False
  | n + 1, a1, m =>
    (a1 < 2147483648) ∧
    ((8 ≤ a1) →
      True) ∧
    (¬ (8 ≤ a1) →
      ((5 + a1) < 13) ∧
      (a1 < 8) ∧
      let m25 := ab_up m 21 a1 (m 6 (5 + a1))
      Ddriver_140 n (a1 + 1) m25)
set_option maxRecDepth 100000 in
set_option maxHeartbeats 4000000 in
theorem w_driver_140 {tt : Prop} : ∀ (n : Nat) (a1 : Nat) (m : mD) (hD : Ddriver_140 n a1 m), mV mX11_driver 5 tt (mQv (Fdriver_140 n a1 m)) 140 [some (.ref (0)), some (.int (nI (a1)))] [] m := by
  intro n
  induction n with
  | zero => intros; rename_i hD; exact hD.elim
  | succ n ih =>
    intro a1 m hD
    refine ab_iload_n (pc := 140) dX11_driver_140 rfl rfl ?_
    refine ab_bipush (pc := 141) (v := nI 8) dX11_driver_141 (by decide) ?_
    obtain ⟨o22, hD⟩ := hD
    refine ab_icmp_geN (pc := 143) (tgt := 166) dX11_driver_143 (by decide) o22 (by decide) (fun c_143 => ?_) (fun c_143 => ?_)
    · refine mo_vr (pc := 166) dX11_driver_166 rfl ?_
      first | (rw [Fdriver_140]; (try dsimp only); rw [if_pos c_143]; done) | (rw [Fdriver_140]; (try dsimp only); rw [if_pos c_143]; rfl)
    · replace hD := hD.2 c_143
      refine ab_aload_n (pc := 146) dX11_driver_146 rfl rfl ?_
      refine mo_gr (pc := 147) dX11_driver_147 fl_X11_113 rfl rfl ?_
      refine ab_iload_n (pc := 150) dX11_driver_150 rfl rfl ?_
      refine ab_aload_n (pc := 151) dX11_driver_151 rfl rfl ?_
      refine mo_gr (pc := 152) dX11_driver_152 fl_X11_61 rfl rfl ?_
      refine ab_iconst (pc := 155) (v := nI 5) dX11_driver_155 (by decide) ?_
      refine ab_iload_n (pc := 156) dX11_driver_156 rfl rfl ?_
      refine ab_iaddN (pc := 157) dX11_driver_157 ?_
      obtain ⟨o23, hD⟩ := hD
      refine mo_ild (pc := 158) dX11_driver_158 (by decide) rfl o23 (by decide) ?_
      obtain ⟨o24, hD⟩ := hD
      refine mo_ist (pc := 159) dX11_driver_159 (by decide) rfl o24 (by decide) ?_
      refine ab_iinc (pc := 160) dX11_driver_160 rfl (ab_inc _) (Nat.le_of_ble_eq_true rfl) rfl ?_
      refine ab_goto (pc := 163) (tgt := 140) dX11_driver_163 (by decide) ?_
      refine mo_eqv ?_ (ih _ _ hD)
      first | (rw [Fdriver_140]; (try dsimp only); rw [if_neg c_143]; done) | (rw [Fdriver_140]; (try dsimp only); rw [if_neg c_143]; rfl)
def Fdriver_18 : Nat → Nat → mD → mD
  | 0, _, m => m
  | n + 1, a1, m =>
    if ((m 2 1).toNatClampNeg) ≤ a1 then
      if (m 0 27) ≤ 0 then
        if (nI ((m 2 1).toNatClampNeg)) ≤ 0 then
          m
        else
          let z8 := FtakeOut 1 0 m
          if (z8 6 1) = (nI (20)) then
            let m9 := ab_up z8 0 27 (z8 6 1)
            let m10 := ab_up m9 0 28 (m9 6 2)
            Fdriver_140 13 0 m10
          else
            if (z8 6 1) = (nI (21)) then
              let m11 := ab_up z8 0 27 (z8 6 1)
              let m12 := ab_up m11 0 28 (m11 6 2)
              Fdriver_140 13 0 m12
            else
              z8
      else
        let z14 := Fworks  m
        z14
    else
      if (Ffield 1 a1 1 m) = (nI (40)) then
        let z17 := Fdrop 1 a1 m
        let z19 := Fdrafts (nI (41)) (nI (0)) (nI (0)) z17
        let z21 := Fsends 1 0 z19
        z21
      else
        Fdriver_18 n (a1 + 1) m
def Ddriver_18 : Nat → Nat → mD → Prop
  | 0, _, _ => False
  | n + 1, a1, m =>
    (¬ (m 2 1) < 0) ∧
    (a1 < 2147483648) ∧
    (((m 2 1).toNatClampNeg) < 2147483648) ∧
    ((((m 2 1).toNatClampNeg) ≤ a1) →
      (((m 0 27) ≤ 0) →
        (¬ (m 2 1) < 0) ∧
        (((nI ((m 2 1).toNatClampNeg)) ≤ 0) →
          True) ∧
        (¬ ((nI ((m 2 1).toNatClampNeg)) ≤ 0) →
          (DtakeOut 1 0 m) ∧
          let z8 := FtakeOut 1 0 m
          (((z8 6 1) = (nI (20))) →
            let m9 := ab_up z8 0 27 (z8 6 1)
            let m10 := ab_up m9 0 28 (m9 6 2)
            Ddriver_140 13 0 m10) ∧
          (¬ ((z8 6 1) = (nI (20))) →
            (((z8 6 1) = (nI (21))) →
              let m11 := ab_up z8 0 27 (z8 6 1)
              let m12 := ab_up m11 0 28 (m11 6 2)
              Ddriver_140 13 0 m12) ∧
            (¬ ((z8 6 1) = (nI (21))) →
              True)))) ∧
      (¬ ((m 0 27) ≤ 0) →
        (Dworks  m) ∧
        let z14 := Fworks  m
        True)) ∧
    (¬ (((m 2 1).toNatClampNeg) ≤ a1) →
      (Dfield 1 a1 1 m) ∧
      (((Ffield 1 a1 1 m) = (nI (40))) →
        (Ddrop 1 a1 m) ∧
        let z17 := Fdrop 1 a1 m
        (Ddrafts (nI (41)) (nI (0)) (nI (0)) z17) ∧
        let z19 := Fdrafts (nI (41)) (nI (0)) (nI (0)) z17
        (Dsends 1 0 z19) ∧
        let z21 := Fsends 1 0 z19
        True) ∧
      (¬ ((Ffield 1 a1 1 m) = (nI (40))) →
        Ddriver_18 n (a1 + 1) m))
set_option maxRecDepth 100000 in
set_option maxHeartbeats 4000000 in
theorem w_driver_18 {tt : Prop} : ∀ (n : Nat) (a1 : Nat) (m : mD) (hD : Ddriver_18 n a1 m), mV mX11_driver 5 tt (mQv (Fdriver_18 n a1 m)) 18 [some (.ref (0)), some (.int (nI (a1)))] [] m := by
  intro n
  induction n with
  | zero => intros; rename_i hD; exact hD.elim
  | succ n ih =>
    intro a1 m hD
    refine ab_iload_n (pc := 18) dX11_driver_18 rfl rfl ?_
    refine ab_aload_n (pc := 19) dX11_driver_19 rfl rfl ?_
    refine mo_gr (pc := 20) dX11_driver_20 fl_X11_38 rfl rfl ?_
    refine ab_iconst (pc := 23) (v := nI 1) dX11_driver_23 (by decide) ?_
    refine mo_ild (pc := 24) dX11_driver_24 (by decide) rfl (by decide) (by decide) ?_
    obtain ⟨o3, hD⟩ := hD
    refine ab_nat1 (ab_nat o3) ?_
    obtain ⟨o4, hD⟩ := hD
    obtain ⟨o5, hD⟩ := hD
    refine ab_icmp_geN (pc := 25) (tgt := 67) dX11_driver_25 (by decide) o4 o5 (fun c_25 => ?_) (fun c_25 => ?_)
    · replace hD := hD.1 c_25
      refine ab_aload_n (pc := 67) dX11_driver_67 rfl rfl ?_
      refine mo_gi (pc := 68) dX11_driver_68 fl_X11_122 rfl ?_
      refine ab_if_le (pc := 71) (tgt := 81) dX11_driver_71 (by decide) (fun c_71 => ?_) (fun c_71 => ?_)
      · replace hD := hD.1 c_71
        refine ab_aload_n (pc := 81) dX11_driver_81 rfl rfl ?_
        refine mo_gr (pc := 82) dX11_driver_82 fl_X11_38 rfl rfl ?_
        refine ab_iconst (pc := 85) (v := nI 1) dX11_driver_85 (by decide) ?_
        refine mo_ild (pc := 86) dX11_driver_86 (by decide) rfl (by decide) (by decide) ?_
        obtain ⟨o6, hD⟩ := hD
        refine ab_nat1 (ab_nat o6) ?_
        refine ab_if_le (pc := 87) (tgt := 166) dX11_driver_87 (by decide) (fun c_87 => ?_) (fun c_87 => ?_)
        · refine mo_vr (pc := 166) dX11_driver_166 rfl ?_
          first | (rw [Fdriver_18]; (try dsimp only); rw [if_pos c_25, if_pos c_71, if_pos c_87]; done) | (rw [Fdriver_18]; (try dsimp only); rw [if_pos c_25, if_pos c_71, if_pos c_87]; rfl)
        · replace hD := hD.2 c_87
          refine ab_aload_n (pc := 90) dX11_driver_90 rfl rfl ?_
          refine ab_iconst (pc := 91) (v := nI 1) dX11_driver_91 (by decide) ?_
          refine ab_iconst (pc := 92) (v := nI 0) dX11_driver_92 (by decide) ?_
          obtain ⟨o7, hD⟩ := hD
          refine mo_invv (N := mX11_takeOut) (pc := 93) (d' := 1) (av := [_, _]) dX11_driver_93 ml_X11_143 fv_X11_takeOut (Nat.le_of_ble_eq_true rfl) (by decide) (c_takeOut _ _ _ o7) ?_
          refine ab_aload_n (pc := 96) dX11_driver_96 rfl rfl ?_
          refine mo_gr (pc := 97) dX11_driver_97 fl_X11_61 rfl rfl ?_
          refine ab_iconst (pc := 100) (v := nI 1) dX11_driver_100 (by decide) ?_
          refine mo_ild (pc := 101) dX11_driver_101 (by decide) rfl (by decide) (by decide) ?_
          refine ab_bipush (pc := 102) (v := nI 20) dX11_driver_102 (by decide) ?_
          refine ab_icmp_eq (pc := 104) (tgt := 118) dX11_driver_104 (by decide) (fun c_104 => ?_) (fun c_104 => ?_)
          · replace hD := hD.1 c_104
            refine ab_aload_n (pc := 118) dX11_driver_118 rfl rfl ?_
            refine ab_aload_n (pc := 119) dX11_driver_119 rfl rfl ?_
            refine mo_gr (pc := 120) dX11_driver_120 fl_X11_61 rfl rfl ?_
            refine ab_iconst (pc := 123) (v := nI 1) dX11_driver_123 (by decide) ?_
            refine mo_ild (pc := 124) dX11_driver_124 (by decide) rfl (by decide) (by decide) ?_
            refine mo_pi (pc := 125) dX11_driver_125 fl_X11_122 rfl rfl (ab_ok_i _) ?_
            refine ab_aload_n (pc := 128) dX11_driver_128 rfl rfl ?_
            refine ab_aload_n (pc := 129) dX11_driver_129 rfl rfl ?_
            refine mo_gr (pc := 130) dX11_driver_130 fl_X11_61 rfl rfl ?_
            refine ab_iconst (pc := 133) (v := nI 2) dX11_driver_133 (by decide) ?_
            refine mo_ild (pc := 134) dX11_driver_134 (by decide) rfl (by decide) (by decide) ?_
            refine mo_pi (pc := 135) dX11_driver_135 fl_X11_163 rfl rfl (ab_ok_i _) ?_
            refine ab_iconst (pc := 138) (v := nI 0) dX11_driver_138 (by decide) ?_
            refine ab_istore_n (pc := 139) dX11_driver_139 rfl (Nat.le_of_ble_eq_true rfl) rfl ?_
            refine mo_eqv ?_ (w_driver_140 13 _ _ hD)
            first | (rw [Fdriver_18]; (try dsimp only); rw [if_pos c_25, if_pos c_71, if_neg c_87, if_pos c_104]; done) | (rw [Fdriver_18]; (try dsimp only); rw [if_pos c_25, if_pos c_71, if_neg c_87, if_pos c_104]; rfl)
          · replace hD := hD.2 c_104
            refine ab_aload_n (pc := 107) dX11_driver_107 rfl rfl ?_
            refine mo_gr (pc := 108) dX11_driver_108 fl_X11_61 rfl rfl ?_
            refine ab_iconst (pc := 111) (v := nI 1) dX11_driver_111 (by decide) ?_
            refine mo_ild (pc := 112) dX11_driver_112 (by decide) rfl (by decide) (by decide) ?_
            refine ab_bipush (pc := 113) (v := nI 21) dX11_driver_113 (by decide) ?_
            refine ab_icmp_ne (pc := 115) (tgt := 166) dX11_driver_115 (by decide) (fun c_115 => ?_) (fun c_115 => ?_)
            · refine mo_vr (pc := 166) dX11_driver_166 rfl ?_
              first | (rw [Fdriver_18]; (try dsimp only); rw [if_pos c_25, if_pos c_71, if_neg c_87, if_neg c_104, if_neg c_115]; done) | (rw [Fdriver_18]; (try dsimp only); rw [if_pos c_25, if_pos c_71, if_neg c_87, if_neg c_104, if_neg c_115]; rfl)
            · replace hD := hD.1 c_115
              refine ab_aload_n (pc := 118) dX11_driver_118 rfl rfl ?_
              refine ab_aload_n (pc := 119) dX11_driver_119 rfl rfl ?_
              refine mo_gr (pc := 120) dX11_driver_120 fl_X11_61 rfl rfl ?_
              refine ab_iconst (pc := 123) (v := nI 1) dX11_driver_123 (by decide) ?_
              refine mo_ild (pc := 124) dX11_driver_124 (by decide) rfl (by decide) (by decide) ?_
              refine mo_pi (pc := 125) dX11_driver_125 fl_X11_122 rfl rfl (ab_ok_i _) ?_
              refine ab_aload_n (pc := 128) dX11_driver_128 rfl rfl ?_
              refine ab_aload_n (pc := 129) dX11_driver_129 rfl rfl ?_
              refine mo_gr (pc := 130) dX11_driver_130 fl_X11_61 rfl rfl ?_
              refine ab_iconst (pc := 133) (v := nI 2) dX11_driver_133 (by decide) ?_
              refine mo_ild (pc := 134) dX11_driver_134 (by decide) rfl (by decide) (by decide) ?_
              refine mo_pi (pc := 135) dX11_driver_135 fl_X11_163 rfl rfl (ab_ok_i _) ?_
              refine ab_iconst (pc := 138) (v := nI 0) dX11_driver_138 (by decide) ?_
              refine ab_istore_n (pc := 139) dX11_driver_139 rfl (Nat.le_of_ble_eq_true rfl) rfl ?_
              refine mo_eqv ?_ (w_driver_140 13 _ _ hD)
              first | (rw [Fdriver_18]; (try dsimp only); rw [if_pos c_25, if_pos c_71, if_neg c_87, if_neg c_104, if_pos c_115]; done) | (rw [Fdriver_18]; (try dsimp only); rw [if_pos c_25, if_pos c_71, if_neg c_87, if_neg c_104, if_pos c_115]; rfl)
      · replace hD := hD.2 c_71
        refine ab_aload_n (pc := 74) dX11_driver_74 rfl rfl ?_
        obtain ⟨o13, hD⟩ := hD
        refine mo_invv (N := mX11_works) (pc := 75) (d' := 4) (av := []) dX11_driver_75 ml_X11_160 fv_X11_works (Nat.le_of_ble_eq_true rfl) (by decide) (c_works  _ o13) ?_
        refine ab_goto (pc := 78) (tgt := 166) dX11_driver_78 (by decide) ?_
        refine mo_vr (pc := 166) dX11_driver_166 rfl ?_
        first | (rw [Fdriver_18]; (try dsimp only); rw [if_pos c_25, if_neg c_71]; done) | (rw [Fdriver_18]; (try dsimp only); rw [if_pos c_25, if_neg c_71]; rfl)
    · replace hD := hD.2 c_25
      refine ab_aload_n (pc := 28) dX11_driver_28 rfl rfl ?_
      refine ab_iconst (pc := 29) (v := nI 1) dX11_driver_29 (by decide) ?_
      refine ab_iload_n (pc := 30) dX11_driver_30 rfl rfl ?_
      refine ab_iconst (pc := 31) (v := nI 1) dX11_driver_31 (by decide) ?_
      obtain ⟨o15, hD⟩ := hD
      refine mo_invr (N := mX11_field) (pc := 32) (d' := 0) (av := [_, _, _]) dX11_driver_32 ml_X11_156 fv_X11_field (Nat.le_of_ble_eq_true rfl) (by decide) (c_field _ _ _ _ o15) ?_
      refine ab_bipush (pc := 35) (v := nI 40) dX11_driver_35 (by decide) ?_
      refine ab_icmp_ne (pc := 37) (tgt := 61) dX11_driver_37 (by decide) (fun c_37 => ?_) (fun c_37 => ?_)
      · replace hD := hD.2 c_37
        refine ab_iinc (pc := 61) dX11_driver_61 rfl (ab_inc _) (Nat.le_of_ble_eq_true rfl) rfl ?_
        refine ab_goto (pc := 64) (tgt := 18) dX11_driver_64 (by decide) ?_
        refine mo_eqv ?_ (ih _ _ hD)
        first | (rw [Fdriver_18]; (try dsimp only); rw [if_neg c_25, if_neg c_37]; done) | (rw [Fdriver_18]; (try dsimp only); rw [if_neg c_25, if_neg c_37]; rfl)
      · replace hD := hD.1 c_37
        refine ab_aload_n (pc := 40) dX11_driver_40 rfl rfl ?_
        refine ab_iconst (pc := 41) (v := nI 1) dX11_driver_41 (by decide) ?_
        refine ab_iload_n (pc := 42) dX11_driver_42 rfl rfl ?_
        obtain ⟨o16, hD⟩ := hD
        refine mo_invv (N := mX11_drop) (pc := 43) (d' := 0) (av := [_, _]) dX11_driver_43 ml_X11_64 fv_X11_drop (Nat.le_of_ble_eq_true rfl) (by decide) (c_drop _ _ _ o16) ?_
        refine ab_aload_n (pc := 46) dX11_driver_46 rfl rfl ?_
        refine ab_bipush (pc := 47) (v := nI 41) dX11_driver_47 (by decide) ?_
        refine ab_iconst (pc := 49) (v := nI 0) dX11_driver_49 (by decide) ?_
        refine ab_iconst (pc := 50) (v := nI 0) dX11_driver_50 (by decide) ?_
        obtain ⟨o18, hD⟩ := hD
        refine mo_invv (N := mX11_drafts) (pc := 51) (d' := 0) (av := [_, _, _]) dX11_driver_51 ml_X11_152 fv_X11_drafts (Nat.le_of_ble_eq_true rfl) (by decide) (c_drafts _ _ _ _ o18) ?_
        refine ab_aload_n (pc := 54) dX11_driver_54 rfl rfl ?_
        refine ab_iconst (pc := 55) (v := nI 1) dX11_driver_55 (by decide) ?_
        refine ab_iconst (pc := 56) (v := nI 0) dX11_driver_56 (by decide) ?_
        obtain ⟨o20, hD⟩ := hD
        refine mo_invv (N := mX11_sends) (pc := 57) (d' := 3) (av := [_, _]) dX11_driver_57 ml_X11_57 fv_X11_sends (Nat.le_of_ble_eq_true rfl) (by decide) (c_sends _ _ _ o20) ?_
        refine mo_vr (pc := 60) dX11_driver_60 rfl ?_
        first | (rw [Fdriver_18]; (try dsimp only); rw [if_neg c_25, if_pos c_37]; done) | (rw [Fdriver_18]; (try dsimp only); rw [if_neg c_25, if_pos c_37]; rfl)
def Fdriver  (m : mD) : mD :=
  if (m 0 24) = 0 then
    let z2 := FsendsAgain 1 m
    if (z2.1) = 0 then
      Fdriver_18 13 0 z2.2
    else
      z2.2
  else
    m
def Ddriver  (m : mD) : Prop :=
  (((m 0 24) = 0) →
    (DsendsAgain 1 m) ∧
    let z2 := FsendsAgain 1 m
    (((z2.1) = 0) →
      Ddriver_18 13 0 z2.2) ∧
    (¬ ((z2.1) = 0) →
      True)) ∧
  (¬ ((m 0 24) = 0) →
    True)
set_option maxRecDepth 100000 in
set_option maxHeartbeats 4000000 in
theorem c_driver {tt : Prop}  (m : mD) (hD : Ddriver  m) : ab_Met mX11_driver 5 0 0 tt [.ref (0)] (sM m) (mQv (Fdriver  m)) := by
  refine ab_Met.of rfl (Nat.le_of_ble_eq_true rfl) ?_
  show mV mX11_driver 5 tt (mQv (Fdriver  m)) 0 [some (.ref (0)), none] [] m
  refine ab_aload_n (pc := 0) dX11_driver_0 rfl rfl ?_
  refine mo_gi (pc := 1) dX11_driver_1 fl_X11_119 rfl ?_
  refine ab_if_ne (pc := 4) (tgt := 15) dX11_driver_4 (by decide) (fun c_4 => ?_) (fun c_4 => ?_)
  · refine mo_vr (pc := 15) dX11_driver_15 rfl ?_
    first | (rw [Fdriver]; (try dsimp only); rw [if_neg c_4]; done) | (rw [Fdriver]; (try dsimp only); rw [if_neg c_4]; rfl)
  · replace hD := hD.1 c_4
    refine ab_aload_n (pc := 7) dX11_driver_7 rfl rfl ?_
    refine ab_iconst (pc := 8) (v := nI 1) dX11_driver_8 (by decide) ?_
    obtain ⟨o1, hD⟩ := hD
    refine mo_invi (N := mX11_sendsAgain) (pc := 9) (d' := 4) (av := [_]) dX11_driver_9 ml_X11_137 fv_X11_sendsAgain (Nat.le_of_ble_eq_true rfl) (by decide) (c_sendsAgain _ _ o1) ?_
    refine ab_if_eq (pc := 12) (tgt := 16) dX11_driver_12 (by decide) (fun c_12 => ?_) (fun c_12 => ?_)
    · replace hD := hD.1 c_12
      refine ab_iconst (pc := 16) (v := nI 0) dX11_driver_16 (by decide) ?_
      refine ab_istore_n (pc := 17) dX11_driver_17 rfl (Nat.le_of_ble_eq_true rfl) rfl ?_
      refine mo_eqv ?_ (w_driver_18 13 _ _ hD)
      first | (rw [Fdriver]; (try dsimp only); rw [if_pos c_4, if_pos c_12]; done) | (rw [Fdriver]; (try dsimp only); rw [if_pos c_4, if_pos c_12]; rfl)
    · refine mo_vr (pc := 15) dX11_driver_15 rfl ?_
      first | (rw [Fdriver]; (try dsimp only); rw [if_pos c_4, if_neg c_12]; done) | (rw [Fdriver]; (try dsimp only); rw [if_pos c_4, if_neg c_12]; rfl)
end
