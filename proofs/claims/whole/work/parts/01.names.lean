-- ===== PART A: goes FIRST, ahead of the names: the tables' words, and 'selects' of the private methods out of them =====
/-- a private method of a class that the tables say can be made, by its rows of tables_1 -/
def lw_okq (q : MethodName × Nat) : Prop := (q.1.cls ≠ "java/lang/invoke/MethodHandle" ∧ q.1.cls ≠ "java/lang/invoke/VarHandle") ∧ Cond.instantiable q.1.cls q.2 ∈ tables_1 ∧ Cond.privateMethod q.1 ∈ tables_1 ∧ Cond.instanceMethod q.1 ∈ tables_1
theorem lw_p0 : lw_okq (⟨"SwitchDesk$Tray", "findLighted", "()V"⟩, 11) := ⟨⟨by decide +kernel, by decide +kernel⟩, List.mem_of_getElem? (i := 39) (by decide +kernel), List.mem_of_getElem? (i := 53) (by decide +kernel), List.mem_of_getElem? (i := 54) (by decide +kernel)⟩
theorem lw_p1 : lw_okq (⟨"SwitchDesk$Tray", "standBehind", "(II)V"⟩, 11) := ⟨⟨by decide +kernel, by decide +kernel⟩, List.mem_of_getElem? (i := 39) (by decide +kernel), List.mem_of_getElem? (i := 64) (by decide +kernel), List.mem_of_getElem? (i := 65) (by decide +kernel)⟩
theorem lw_p2 : lw_okq (⟨"SwitchDesk$Tray", "join", "(II)V"⟩, 11) := ⟨⟨by decide +kernel, by decide +kernel⟩, List.mem_of_getElem? (i := 39) (by decide +kernel), List.mem_of_getElem? (i := 68) (by decide +kernel), List.mem_of_getElem? (i := 69) (by decide +kernel)⟩
theorem lw_p3 : lw_okq (⟨"SwitchDesk", "showTrayAnew", "()V"⟩, 9) := ⟨⟨by decide +kernel, by decide +kernel⟩, List.mem_of_getElem? (i := 20) (by decide +kernel), List.mem_of_getElem? (i := 355) (by decide +kernel), List.mem_of_getElem? (i := 356) (by decide +kernel)⟩
theorem lw_p4 : lw_okq (⟨"SwitchDesk$Lamp", "change", "()V"⟩, 10) := ⟨⟨by decide +kernel, by decide +kernel⟩, List.mem_of_getElem? (i := 110) (by decide +kernel), List.mem_of_getElem? (i := 418) (by decide +kernel), List.mem_of_getElem? (i := 419) (by decide +kernel)⟩
theorem lw_p5 : lw_okq (⟨"SwitchDesk", "act", "(I)V"⟩, 9) := ⟨⟨by decide +kernel, by decide +kernel⟩, List.mem_of_getElem? (i := 20) (by decide +kernel), List.mem_of_getElem? (i := 434) (by decide +kernel), List.mem_of_getElem? (i := 435) (by decide +kernel)⟩
theorem lw_p6 : lw_okq (⟨"SwitchDesk$Sheet", "keep", "()V"⟩, 7) := ⟨⟨by decide +kernel, by decide +kernel⟩, List.mem_of_getElem? (i := 155) (by decide +kernel), List.mem_of_getElem? (i := 442) (by decide +kernel), List.mem_of_getElem? (i := 443) (by decide +kernel)⟩
theorem lw_p7 : lw_okq (⟨"SwitchDesk$Finder", "readWritten", "()I"⟩, 7) := ⟨⟨by decide +kernel, by decide +kernel⟩, List.mem_of_getElem? (i := 237) (by decide +kernel), List.mem_of_getElem? (i := 466) (by decide +kernel), List.mem_of_getElem? (i := 467) (by decide +kernel)⟩
theorem lw_p8 : lw_okq (⟨"SwitchDesk$Book", "has", "(I)Z"⟩, 4) := ⟨⟨by decide +kernel, by decide +kernel⟩, List.mem_of_getElem? (i := 218) (by decide +kernel), List.mem_of_getElem? (i := 487) (by decide +kernel), List.mem_of_getElem? (i := 488) (by decide +kernel)⟩
theorem lw_p9 : lw_okq (⟨"SwitchDesk$Finder", "enlist", "(II)V"⟩, 7) := ⟨⟨by decide +kernel, by decide +kernel⟩, List.mem_of_getElem? (i := 237) (by decide +kernel), List.mem_of_getElem? (i := 500) (by decide +kernel), List.mem_of_getElem? (i := 501) (by decide +kernel)⟩
theorem lw_p10 : lw_okq (⟨"SwitchDesk$Finder", "isBetter", "(III)Z"⟩, 7) := ⟨⟨by decide +kernel, by decide +kernel⟩, List.mem_of_getElem? (i := 237) (by decide +kernel), List.mem_of_getElem? (i := 504) (by decide +kernel), List.mem_of_getElem? (i := 505) (by decide +kernel)⟩
theorem lw_p11 : lw_okq (⟨"SwitchDesk$Finder", "slipsOf", "(II)I"⟩, 7) := ⟨⟨by decide +kernel, by decide +kernel⟩, List.mem_of_getElem? (i := 237) (by decide +kernel), List.mem_of_getElem? (i := 532) (by decide +kernel), List.mem_of_getElem? (i := 533) (by decide +kernel)⟩
theorem lw_p12 : lw_okq (⟨"SwitchDesk$Tape", "lettersAlone", "()Z"⟩, 2) := ⟨⟨by decide +kernel, by decide +kernel⟩, List.mem_of_getElem? (i := 204) (by decide +kernel), List.mem_of_getElem? (i := 594) (by decide +kernel), List.mem_of_getElem? (i := 595) (by decide +kernel)⟩
theorem lw_p13 : lw_okq (⟨"SwitchDesk$Book", "add", "(LSwitchDesk$Tape;)I"⟩, 4) := ⟨⟨by decide +kernel, by decide +kernel⟩, List.mem_of_getElem? (i := 218) (by decide +kernel), List.mem_of_getElem? (i := 604) (by decide +kernel), List.mem_of_getElem? (i := 605) (by decide +kernel)⟩
theorem lw_p14 : lw_okq (⟨"SwitchDesk$Shares", "findLeasts", "()V"⟩, 4) := ⟨⟨by decide +kernel, by decide +kernel⟩, List.mem_of_getElem? (i := 265) (by decide +kernel), List.mem_of_getElem? (i := 659) (by decide +kernel), List.mem_of_getElem? (i := 660) (by decide +kernel)⟩
theorem lw_p15 : lw_okq (⟨"SwitchDesk$Plan", "firstEnd", "(II)I"⟩, 5) := ⟨⟨by decide +kernel, by decide +kernel⟩, List.mem_of_getElem? (i := 284) (by decide +kernel), List.mem_of_getElem? (i := 693) (by decide +kernel), List.mem_of_getElem? (i := 694) (by decide +kernel)⟩
def lw_privs_1 : List (MethodName × Nat) := [(⟨"SwitchDesk$Tray", "findLighted", "()V"⟩, 11), (⟨"SwitchDesk$Tray", "standBehind", "(II)V"⟩, 11), (⟨"SwitchDesk$Tray", "join", "(II)V"⟩, 11), (⟨"SwitchDesk", "showTrayAnew", "()V"⟩, 9), (⟨"SwitchDesk$Lamp", "change", "()V"⟩, 10), (⟨"SwitchDesk", "act", "(I)V"⟩, 9), (⟨"SwitchDesk$Sheet", "keep", "()V"⟩, 7), (⟨"SwitchDesk$Finder", "readWritten", "()I"⟩, 7), (⟨"SwitchDesk$Book", "has", "(I)Z"⟩, 4), (⟨"SwitchDesk$Finder", "enlist", "(II)V"⟩, 7), (⟨"SwitchDesk$Finder", "isBetter", "(III)Z"⟩, 7), (⟨"SwitchDesk$Finder", "slipsOf", "(II)I"⟩, 7), (⟨"SwitchDesk$Tape", "lettersAlone", "()Z"⟩, 2), (⟨"SwitchDesk$Book", "add", "(LSwitchDesk$Tape;)I"⟩, 4), (⟨"SwitchDesk$Shares", "findLeasts", "()V"⟩, 4), (⟨"SwitchDesk$Plan", "firstEnd", "(II)I"⟩, 5)]
theorem lw_r1 : ∀ q ∈ lw_privs_1, lw_okq q := List.forall_mem_cons.mpr ⟨lw_p0, List.forall_mem_cons.mpr ⟨lw_p1, List.forall_mem_cons.mpr ⟨lw_p2, List.forall_mem_cons.mpr ⟨lw_p3, List.forall_mem_cons.mpr ⟨lw_p4, List.forall_mem_cons.mpr ⟨lw_p5, List.forall_mem_cons.mpr ⟨lw_p6, List.forall_mem_cons.mpr ⟨lw_p7, List.forall_mem_cons.mpr ⟨lw_p8, List.forall_mem_cons.mpr ⟨lw_p9, List.forall_mem_cons.mpr ⟨lw_p10, List.forall_mem_cons.mpr ⟨lw_p11, List.forall_mem_cons.mpr ⟨lw_p12, List.forall_mem_cons.mpr ⟨lw_p13, List.forall_mem_cons.mpr ⟨lw_p14, List.forall_mem_cons.mpr ⟨lw_p15, fun _ h => absurd h List.not_mem_nil⟩⟩⟩⟩⟩⟩⟩⟩⟩⟩⟩⟩⟩⟩⟩⟩
theorem lw_p16 : lw_okq (⟨"SwitchDesk$Plan", "costWith", "(III)I"⟩, 5) := ⟨⟨by decide +kernel, by decide +kernel⟩, List.mem_of_getElem? (i := 284) (by decide +kernel), List.mem_of_getElem? (i := 697) (by decide +kernel), List.mem_of_getElem? (i := 698) (by decide +kernel)⟩
theorem lw_p17 : lw_okq (⟨"SwitchDesk$Plan", "leastOf", "(II)I"⟩, 5) := ⟨⟨by decide +kernel, by decide +kernel⟩, List.mem_of_getElem? (i := 284) (by decide +kernel), List.mem_of_getElem? (i := 701) (by decide +kernel), List.mem_of_getElem? (i := 702) (by decide +kernel)⟩
theorem lw_p18 : lw_okq (⟨"SwitchDesk$Plan", "sumOf", "(II)I"⟩, 5) := ⟨⟨by decide +kernel, by decide +kernel⟩, List.mem_of_getElem? (i := 284) (by decide +kernel), List.mem_of_getElem? (i := 709) (by decide +kernel), List.mem_of_getElem? (i := 710) (by decide +kernel)⟩
theorem lw_p19 : lw_okq (⟨"SwitchDesk$Plan", "openAt", "(IILSwitchDesk$Tray;)I"⟩, 5) := ⟨⟨by decide +kernel, by decide +kernel⟩, List.mem_of_getElem? (i := 284) (by decide +kernel), List.mem_of_getElem? (i := 717) (by decide +kernel), List.mem_of_getElem? (i := 718) (by decide +kernel)⟩
theorem lw_p20 : lw_okq (⟨"java/lang/Throwable", "fillInStackTrace", "(I)Ljava/lang/Throwable;"⟩, 6) := ⟨⟨by decide +kernel, by decide +kernel⟩, List.mem_of_getElem? (i := 780) (by decide +kernel), List.mem_of_getElem? (i := 778) (by decide +kernel), List.mem_of_getElem? (i := 779) (by decide +kernel)⟩
theorem lw_p21 : lw_okq (⟨"SwitchDeskModel", "looks", "()V"⟩, 38) := ⟨⟨by decide +kernel, by decide +kernel⟩, List.mem_of_getElem? (i := 819) (by decide +kernel), List.mem_of_getElem? (i := 825) (by decide +kernel), List.mem_of_getElem? (i := 826) (by decide +kernel)⟩
theorem lw_p22 : lw_okq (⟨"SwitchDeskModel", "isNode", "(I)Z"⟩, 38) := ⟨⟨by decide +kernel, by decide +kernel⟩, List.mem_of_getElem? (i := 819) (by decide +kernel), List.mem_of_getElem? (i := 954) (by decide +kernel), List.mem_of_getElem? (i := 955) (by decide +kernel)⟩
theorem lw_p23 : lw_okq (⟨"SwitchDeskModel", "adds", "(III)I"⟩, 38) := ⟨⟨by decide +kernel, by decide +kernel⟩, List.mem_of_getElem? (i := 819) (by decide +kernel), List.mem_of_getElem? (i := 964) (by decide +kernel), List.mem_of_getElem? (i := 965) (by decide +kernel)⟩
theorem lw_p24 : lw_okq (⟨"SwitchDeskModel", "comes", "(I)V"⟩, 38) := ⟨⟨by decide +kernel, by decide +kernel⟩, List.mem_of_getElem? (i := 819) (by decide +kernel), List.mem_of_getElem? (i := 968) (by decide +kernel), List.mem_of_getElem? (i := 969) (by decide +kernel)⟩
theorem lw_p25 : lw_okq (⟨"SwitchDeskModel", "placeOf", "(I)I"⟩, 38) := ⟨⟨by decide +kernel, by decide +kernel⟩, List.mem_of_getElem? (i := 819) (by decide +kernel), List.mem_of_getElem? (i := 980) (by decide +kernel), List.mem_of_getElem? (i := 981) (by decide +kernel)⟩
theorem lw_p26 : lw_okq (⟨"SwitchDeskModel", "lights", "(I)I"⟩, 38) := ⟨⟨by decide +kernel, by decide +kernel⟩, List.mem_of_getElem? (i := 819) (by decide +kernel), List.mem_of_getElem? (i := 984) (by decide +kernel), List.mem_of_getElem? (i := 985) (by decide +kernel)⟩
theorem lw_p27 : lw_okq (⟨"SwitchDeskModel", "ticks", "()V"⟩, 38) := ⟨⟨by decide +kernel, by decide +kernel⟩, List.mem_of_getElem? (i := 819) (by decide +kernel), List.mem_of_getElem? (i := 997) (by decide +kernel), List.mem_of_getElem? (i := 998) (by decide +kernel)⟩
theorem lw_p28 : lw_okq (⟨"SwitchDeskModel", "light", "(II)I"⟩, 38) := ⟨⟨by decide +kernel, by decide +kernel⟩, List.mem_of_getElem? (i := 819) (by decide +kernel), List.mem_of_getElem? (i := 1001) (by decide +kernel), List.mem_of_getElem? (i := 1002) (by decide +kernel)⟩
theorem lw_p29 : lw_okq (⟨"SwitchDeskModel", "acts", "(I)V"⟩, 38) := ⟨⟨by decide +kernel, by decide +kernel⟩, List.mem_of_getElem? (i := 819) (by decide +kernel), List.mem_of_getElem? (i := 1009) (by decide +kernel), List.mem_of_getElem? (i := 1010) (by decide +kernel)⟩
theorem lw_p30 : lw_okq (⟨"SwitchDeskModel", "keep", "()V"⟩, 38) := ⟨⟨by decide +kernel, by decide +kernel⟩, List.mem_of_getElem? (i := 819) (by decide +kernel), List.mem_of_getElem? (i := 1013) (by decide +kernel), List.mem_of_getElem? (i := 1014) (by decide +kernel)⟩
theorem lw_p31 : lw_okq (⟨"SwitchDeskModel", "put", "(I)V"⟩, 38) := ⟨⟨by decide +kernel, by decide +kernel⟩, List.mem_of_getElem? (i := 819) (by decide +kernel), List.mem_of_getElem? (i := 1017) (by decide +kernel), List.mem_of_getElem? (i := 1018) (by decide +kernel)⟩
def lw_privs_2 : List (MethodName × Nat) := [(⟨"SwitchDesk$Plan", "costWith", "(III)I"⟩, 5), (⟨"SwitchDesk$Plan", "leastOf", "(II)I"⟩, 5), (⟨"SwitchDesk$Plan", "sumOf", "(II)I"⟩, 5), (⟨"SwitchDesk$Plan", "openAt", "(IILSwitchDesk$Tray;)I"⟩, 5), (⟨"java/lang/Throwable", "fillInStackTrace", "(I)Ljava/lang/Throwable;"⟩, 6), (⟨"SwitchDeskModel", "looks", "()V"⟩, 38), (⟨"SwitchDeskModel", "isNode", "(I)Z"⟩, 38), (⟨"SwitchDeskModel", "adds", "(III)I"⟩, 38), (⟨"SwitchDeskModel", "comes", "(I)V"⟩, 38), (⟨"SwitchDeskModel", "placeOf", "(I)I"⟩, 38), (⟨"SwitchDeskModel", "lights", "(I)I"⟩, 38), (⟨"SwitchDeskModel", "ticks", "()V"⟩, 38), (⟨"SwitchDeskModel", "light", "(II)I"⟩, 38), (⟨"SwitchDeskModel", "acts", "(I)V"⟩, 38), (⟨"SwitchDeskModel", "keep", "()V"⟩, 38), (⟨"SwitchDeskModel", "put", "(I)V"⟩, 38)]
theorem lw_r2 : ∀ q ∈ lw_privs_2, lw_okq q := List.forall_mem_cons.mpr ⟨lw_p16, List.forall_mem_cons.mpr ⟨lw_p17, List.forall_mem_cons.mpr ⟨lw_p18, List.forall_mem_cons.mpr ⟨lw_p19, List.forall_mem_cons.mpr ⟨lw_p20, List.forall_mem_cons.mpr ⟨lw_p21, List.forall_mem_cons.mpr ⟨lw_p22, List.forall_mem_cons.mpr ⟨lw_p23, List.forall_mem_cons.mpr ⟨lw_p24, List.forall_mem_cons.mpr ⟨lw_p25, List.forall_mem_cons.mpr ⟨lw_p26, List.forall_mem_cons.mpr ⟨lw_p27, List.forall_mem_cons.mpr ⟨lw_p28, List.forall_mem_cons.mpr ⟨lw_p29, List.forall_mem_cons.mpr ⟨lw_p30, List.forall_mem_cons.mpr ⟨lw_p31, fun _ h => absurd h List.not_mem_nil⟩⟩⟩⟩⟩⟩⟩⟩⟩⟩⟩⟩⟩⟩⟩⟩
theorem lw_p32 : lw_okq (⟨"SwitchDeskModel", "undo", "()V"⟩, 38) := ⟨⟨by decide +kernel, by decide +kernel⟩, List.mem_of_getElem? (i := 819) (by decide +kernel), List.mem_of_getElem? (i := 1021) (by decide +kernel), List.mem_of_getElem? (i := 1022) (by decide +kernel)⟩
theorem lw_p33 : lw_okq (⟨"SwitchDeskModel", "foreseenAt", "(I)I"⟩, 38) := ⟨⟨by decide +kernel, by decide +kernel⟩, List.mem_of_getElem? (i := 819) (by decide +kernel), List.mem_of_getElem? (i := 1025) (by decide +kernel), List.mem_of_getElem? (i := 1026) (by decide +kernel)⟩
theorem lw_p34 : lw_okq (⟨"SwitchDeskModel", "written", "()I"⟩, 38) := ⟨⟨by decide +kernel, by decide +kernel⟩, List.mem_of_getElem? (i := 819) (by decide +kernel), List.mem_of_getElem? (i := 1029) (by decide +kernel), List.mem_of_getElem? (i := 1030) (by decide +kernel)⟩
theorem lw_p35 : lw_okq (⟨"SwitchDeskModel", "ranked", "(I)I"⟩, 38) := ⟨⟨by decide +kernel, by decide +kernel⟩, List.mem_of_getElem? (i := 819) (by decide +kernel), List.mem_of_getElem? (i := 1033) (by decide +kernel), List.mem_of_getElem? (i := 1034) (by decide +kernel)⟩
theorem lw_p36 : lw_okq (⟨"SwitchDeskModel", "offeredAt", "(I)I"⟩, 38) := ⟨⟨by decide +kernel, by decide +kernel⟩, List.mem_of_getElem? (i := 819) (by decide +kernel), List.mem_of_getElem? (i := 1037) (by decide +kernel), List.mem_of_getElem? (i := 1038) (by decide +kernel)⟩
theorem lw_p37 : lw_okq (⟨"SwitchDeskModel", "areNear", "(II)Z"⟩, 38) := ⟨⟨by decide +kernel, by decide +kernel⟩, List.mem_of_getElem? (i := 819) (by decide +kernel), List.mem_of_getElem? (i := 1041) (by decide +kernel), List.mem_of_getElem? (i := 1042) (by decide +kernel)⟩
theorem lw_p38 : lw_okq (⟨"SwitchDeskModel", "isRow", "()Z"⟩, 38) := ⟨⟨by decide +kernel, by decide +kernel⟩, List.mem_of_getElem? (i := 819) (by decide +kernel), List.mem_of_getElem? (i := 1072) (by decide +kernel), List.mem_of_getElem? (i := 1073) (by decide +kernel)⟩
theorem lw_p39 : lw_okq (⟨"SwitchDeskModel", "isWord", "(I)Z"⟩, 38) := ⟨⟨by decide +kernel, by decide +kernel⟩, List.mem_of_getElem? (i := 819) (by decide +kernel), List.mem_of_getElem? (i := 1076) (by decide +kernel), List.mem_of_getElem? (i := 1077) (by decide +kernel)⟩
theorem lw_p40 : lw_okq (⟨"SwitchDeskModel", "hasKey", "(I)Z"⟩, 38) := ⟨⟨by decide +kernel, by decide +kernel⟩, List.mem_of_getElem? (i := 819) (by decide +kernel), List.mem_of_getElem? (i := 1104) (by decide +kernel), List.mem_of_getElem? (i := 1105) (by decide +kernel)⟩
theorem lw_p41 : lw_okq (⟨"SwitchDeskModel", "costOf", "(I)I"⟩, 38) := ⟨⟨by decide +kernel, by decide +kernel⟩, List.mem_of_getElem? (i := 819) (by decide +kernel), List.mem_of_getElem? (i := 1108) (by decide +kernel), List.mem_of_getElem? (i := 1109) (by decide +kernel)⟩
theorem lw_p42 : lw_okq (⟨"SwitchDeskModel", "sums", "(I)V"⟩, 38) := ⟨⟨by decide +kernel, by decide +kernel⟩, List.mem_of_getElem? (i := 819) (by decide +kernel), List.mem_of_getElem? (i := 1121) (by decide +kernel), List.mem_of_getElem? (i := 1122) (by decide +kernel)⟩
theorem lw_p43 : lw_okq (⟨"SwitchDeskModel", "item", "(III)J"⟩, 38) := ⟨⟨by decide +kernel, by decide +kernel⟩, List.mem_of_getElem? (i := 819) (by decide +kernel), List.mem_of_getElem? (i := 1126) (by decide +kernel), List.mem_of_getElem? (i := 1127) (by decide +kernel)⟩
theorem lw_p44 : lw_okq (⟨"SwitchDeskModel", "weight", "(II)J"⟩, 38) := ⟨⟨by decide +kernel, by decide +kernel⟩, List.mem_of_getElem? (i := 819) (by decide +kernel), List.mem_of_getElem? (i := 1130) (by decide +kernel), List.mem_of_getElem? (i := 1131) (by decide +kernel)⟩
theorem lw_p45 : lw_okq (⟨"SwitchDeskModel", "lays", "(IIIIZ)V"⟩, 38) := ⟨⟨by decide +kernel, by decide +kernel⟩, List.mem_of_getElem? (i := 819) (by decide +kernel), List.mem_of_getElem? (i := 1141) (by decide +kernel), List.mem_of_getElem? (i := 1142) (by decide +kernel)⟩
def lw_privs_3 : List (MethodName × Nat) := [(⟨"SwitchDeskModel", "undo", "()V"⟩, 38), (⟨"SwitchDeskModel", "foreseenAt", "(I)I"⟩, 38), (⟨"SwitchDeskModel", "written", "()I"⟩, 38), (⟨"SwitchDeskModel", "ranked", "(I)I"⟩, 38), (⟨"SwitchDeskModel", "offeredAt", "(I)I"⟩, 38), (⟨"SwitchDeskModel", "areNear", "(II)Z"⟩, 38), (⟨"SwitchDeskModel", "isRow", "()Z"⟩, 38), (⟨"SwitchDeskModel", "isWord", "(I)Z"⟩, 38), (⟨"SwitchDeskModel", "hasKey", "(I)Z"⟩, 38), (⟨"SwitchDeskModel", "costOf", "(I)I"⟩, 38), (⟨"SwitchDeskModel", "sums", "(I)V"⟩, 38), (⟨"SwitchDeskModel", "item", "(III)J"⟩, 38), (⟨"SwitchDeskModel", "weight", "(II)J"⟩, 38), (⟨"SwitchDeskModel", "lays", "(IIIIZ)V"⟩, 38)]
theorem lw_r3 : ∀ q ∈ lw_privs_3, lw_okq q := List.forall_mem_cons.mpr ⟨lw_p32, List.forall_mem_cons.mpr ⟨lw_p33, List.forall_mem_cons.mpr ⟨lw_p34, List.forall_mem_cons.mpr ⟨lw_p35, List.forall_mem_cons.mpr ⟨lw_p36, List.forall_mem_cons.mpr ⟨lw_p37, List.forall_mem_cons.mpr ⟨lw_p38, List.forall_mem_cons.mpr ⟨lw_p39, List.forall_mem_cons.mpr ⟨lw_p40, List.forall_mem_cons.mpr ⟨lw_p41, List.forall_mem_cons.mpr ⟨lw_p42, List.forall_mem_cons.mpr ⟨lw_p43, List.forall_mem_cons.mpr ⟨lw_p44, List.forall_mem_cons.mpr ⟨lw_p45, fun _ h => absurd h List.not_mem_nil⟩⟩⟩⟩⟩⟩⟩⟩⟩⟩⟩⟩⟩⟩
def lw_privs : List (MethodName × Nat) := lw_privs_1 ++ (lw_privs_2 ++ (lw_privs_3))
def lw_tbl : List Cond := k2_sels lw_privs ++ tables_1
theorem lw_privs_ok : ∀ q ∈ lw_privs, lw_okq q := by
  show ∀ q ∈ lw_privs_1 ++ (lw_privs_2 ++ (lw_privs_3)), lw_okq q
  exact List.forall_mem_append.mpr ⟨lw_r1, List.forall_mem_append.mpr ⟨lw_r2, lw_r3⟩⟩
def RX0 : String := "SwitchDesk$Book"
def TX0 : u_T := fun k => match k with
  | 0 => ("SwitchDesk$Book", "signs", "[I", true)
  | 1 => ("SwitchDesk$Book", "sizes", "[I", true)
  | 2 => ("SwitchDesk$Book", "counts", "[I", true)
  | _ => ("SwitchDesk$Book", "size", "I", false)
def tyX0 : Nat → FieldType := fun k => match k with
  | 0 => .array .int
  | 1 => .array .int
  | 2 => .array .int
  | _ => .int
abbrev wsX00 : List Cond := u_ws RX0 TX0 4
theorem nmX0 : ∀ a, a < 4 → ∀ b, b < 4 → a ≠ b → (TX0 a).2.1 ≠ (TX0 b).2.1 := by decide +kernel
theorem tyX0_ok : ∀ k, k < 4 → parseFieldDescriptor (TX0 k).2.2.1 = some (tyX0 k) := by decide +kernel
abbrev cX0_init : ByteArray := prog_2_method_1_code
def yX0_init : MethodName := ⟨RX0, "<init>", "()V"⟩
abbrev cX0_take : ByteArray := prog_2_method_2_code
def yX0_take : MethodName := ⟨RX0, "take", "(LSwitchDesk$Tape;I)I"⟩
abbrev cX0_add : ByteArray := prog_2_method_3_code
def yX0_add : MethodName := ⟨RX0, "add", "(LSwitchDesk$Tape;)I"⟩
abbrev cX0_find : ByteArray := prog_2_method_4_code
def yX0_find : MethodName := ⟨RX0, "find", "([II)I"⟩
abbrev cX0_beginsWith : ByteArray := prog_2_method_5_code
def yX0_beginsWith : MethodName := ⟨RX0, "beginsWith", "(I[II)Z"⟩
abbrev cX0_has : ByteArray := prog_2_method_6_code
def yX0_has : MethodName := ⟨RX0, "has", "(I)Z"⟩
abbrev cX0_size : ByteArray := prog_2_method_7_code
def yX0_size : MethodName := ⟨RX0, "size", "()I"⟩
abbrev cX0_sizeOf : ByteArray := prog_2_method_8_code
def yX0_sizeOf : MethodName := ⟨RX0, "sizeOf", "(I)I"⟩
abbrev cX0_timesOf : ByteArray := prog_2_method_9_code
def yX0_timesOf : MethodName := ⟨RX0, "timesOf", "(I)I"⟩
abbrev cX0_signOf : ByteArray := prog_2_method_10_code
def yX0_signOf : MethodName := ⟨RX0, "signOf", "(II)I"⟩
def RX1 : String := "SwitchDesk$Chain"
def TX1 : u_T := fun k => match k with
  | 0 => ("SwitchDesk$Chain", "before", "LSwitchDesk$Chain;", true)
  | 1 => ("SwitchDesk$Chain", "sign", "I", true)
  | _ => ("SwitchDesk$Chain", "size", "I", true)
def tyX1 : Nat → FieldType := fun k => match k with
  | 0 => .object "SwitchDesk$Chain"
  | 1 => .int
  | _ => .int
abbrev wsX10 : List Cond := u_ws RX1 TX1 3
theorem nmX1 : ∀ a, a < 3 → ∀ b, b < 3 → a ≠ b → (TX1 a).2.1 ≠ (TX1 b).2.1 := by decide +kernel
theorem tyX1_ok : ∀ k, k < 3 → parseFieldDescriptor (TX1 k).2.2.1 = some (tyX1 k) := by decide +kernel
abbrev cX1_init : ByteArray := prog_3_method_1_code
def yX1_init : MethodName := ⟨RX1, "<init>", "(LSwitchDesk$Chain;I)V"⟩
abbrev cX1_without : ByteArray := prog_3_method_2_code
def yX1_without : MethodName := ⟨RX1, "without", "(I)LSwitchDesk$Chain;"⟩
abbrev cX1_signAt : ByteArray := prog_3_method_3_code
def yX1_signAt : MethodName := ⟨RX1, "signAt", "(I)I"⟩
def RX2 : String := "SwitchDesk$Finder"
def TX2 : u_T := fun k => match k with
  | 0 => ("SwitchDesk$Finder", "book", "LSwitchDesk$Book;", true)
  | 1 => ("SwitchDesk$Finder", "tray", "LSwitchDesk$Tray;", true)
  | 2 => ("SwitchDesk$Finder", "sheet", "LSwitchDesk$Sheet;", true)
  | 3 => ("SwitchDesk$Finder", "written", "[I", true)
  | 4 => ("SwitchDesk$Finder", "words", "[I", true)
  | 5 => ("SwitchDesk$Finder", "slips", "[I", true)
  | _ => ("SwitchDesk$Finder", "found", "I", false)
def tyX2 : Nat → FieldType := fun k => match k with
  | 0 => .object "SwitchDesk$Book"
  | 1 => .object "SwitchDesk$Tray"
  | 2 => .object "SwitchDesk$Sheet"
  | 3 => .array .int
  | 4 => .array .int
  | 5 => .array .int
  | _ => .int
abbrev wsX20 : List Cond := u_ws RX2 TX2 7
theorem nmX2 : ∀ a, a < 7 → ∀ b, b < 7 → a ≠ b → (TX2 a).2.1 ≠ (TX2 b).2.1 := by decide +kernel
theorem tyX2_ok : ∀ k, k < 7 → parseFieldDescriptor (TX2 k).2.2.1 = some (tyX2 k) := by decide +kernel
abbrev cX2_init : ByteArray := prog_4_method_1_code
def yX2_init : MethodName := ⟨RX2, "<init>", "(LSwitchDesk$Book;LSwitchDesk$Tray;LSwitchDesk$Sheet;)V"⟩
abbrev cX2_seekForeseen : ByteArray := prog_4_method_2_code
def yX2_seekForeseen : MethodName := ⟨RX2, "seekForeseen", "()V"⟩
abbrev cX2_seekOffered : ByteArray := prog_4_method_3_code
def yX2_seekOffered : MethodName := ⟨RX2, "seekOffered", "()V"⟩
abbrev cX2_readWritten : ByteArray := prog_4_method_4_code
def yX2_readWritten : MethodName := ⟨RX2, "readWritten", "()I"⟩
abbrev cX2_slipsOf : ByteArray := prog_4_method_5_code
def yX2_slipsOf : MethodName := ⟨RX2, "slipsOf", "(II)I"⟩
abbrev cX2_enlist : ByteArray := prog_4_method_6_code
def yX2_enlist : MethodName := ⟨RX2, "enlist", "(II)V"⟩
abbrev cX2_isBetter : ByteArray := prog_4_method_7_code
def yX2_isBetter : MethodName := ⟨RX2, "isBetter", "(III)Z"⟩
abbrev cX2_found : ByteArray := prog_4_method_8_code
def yX2_found : MethodName := ⟨RX2, "found", "()I"⟩
abbrev cX2_foundAt : ByteArray := prog_4_method_9_code
def yX2_foundAt : MethodName := ⟨RX2, "foundAt", "(I)I"⟩
def RX3 : String := "SwitchDesk$Lamp"
def TX3 : u_T := fun k => match k with
  | 0 => ("SwitchDesk$Lamp", "tray", "LSwitchDesk$Tray;", true)
  | 1 => ("SwitchDesk$Lamp", "numbers", "LSwitchDesk$Numbers;", true)
  | 2 => ("SwitchDesk$Lamp", "now", "I", false)
  | 3 => ("SwitchDesk$Lamp", "group", "I", false)
  | 4 => ("SwitchDesk$Lamp", "lit", "I", false)
  | 5 => ("SwitchDesk$Lamp", "before", "I", false)
  | 6 => ("SwitchDesk$Lamp", "changed", "I", false)
  | 7 => ("SwitchDesk$Lamp", "rounds", "I", false)
  | 8 => ("SwitchDesk$Lamp", "presses", "I", false)
  | _ => ("SwitchDesk$Lamp", "lastPress", "I", false)
def tyX3 : Nat → FieldType := fun k => match k with
  | 0 => .object "SwitchDesk$Tray"
  | 1 => .object "SwitchDesk$Numbers"
  | 2 => .int
  | 3 => .int
  | 4 => .int
  | 5 => .int
  | 6 => .int
  | 7 => .int
  | 8 => .int
  | _ => .int
abbrev wsX30 : List Cond := u_ws RX3 TX3 10
theorem nmX3 : ∀ a, a < 10 → ∀ b, b < 10 → a ≠ b → (TX3 a).2.1 ≠ (TX3 b).2.1 := by decide +kernel
theorem tyX3_ok : ∀ k, k < 10 → parseFieldDescriptor (TX3 k).2.2.1 = some (tyX3 k) := by decide +kernel
abbrev cX3_init : ByteArray := prog_5_method_1_code
def yX3_init : MethodName := ⟨RX3, "<init>", "(LSwitchDesk$Tray;LSwitchDesk$Numbers;)V"⟩
abbrev cX3_comeTo : ByteArray := prog_5_method_2_code
def yX3_comeTo : MethodName := ⟨RX3, "comeTo", "(I)V"⟩
abbrev cX3_pass : ByteArray := prog_5_method_3_code
def yX3_pass : MethodName := ⟨RX3, "pass", "(I)I"⟩
abbrev cX3_change : ByteArray := prog_5_method_4_code
def yX3_change : MethodName := ⟨RX3, "change", "()V"⟩
abbrev cX3_take : ByteArray := prog_5_method_5_code
def yX3_take : MethodName := ⟨RX3, "take", "()I"⟩
abbrev cX3_tell : ByteArray := prog_5_method_6_code
def yX3_tell : MethodName := ⟨RX3, "tell", "(I)I"⟩
def RX4 : String := "SwitchDesk$Numbers"
def TX4 : u_T := fun k => match k with
  | _ => ("SwitchDesk$Numbers", "values", "[I", true)
def tyX4 : Nat → FieldType := fun k => match k with
  | _ => .array .int
abbrev wsX40 : List Cond := u_ws RX4 TX4 1
theorem nmX4 : ∀ a, a < 1 → ∀ b, b < 1 → a ≠ b → (TX4 a).2.1 ≠ (TX4 b).2.1 := by decide +kernel
theorem tyX4_ok : ∀ k, k < 1 → parseFieldDescriptor (TX4 k).2.2.1 = some (tyX4 k) := by decide +kernel
abbrev cX4_init : ByteArray := prog_6_method_1_code
def yX4_init : MethodName := ⟨RX4, "<init>", "()V"⟩
abbrev cX4_change : ByteArray := prog_6_method_2_code
def yX4_change : MethodName := ⟨RX4, "change", "(II)Z"⟩
abbrev cX4_get : ByteArray := prog_6_method_3_code
def yX4_get : MethodName := ⟨RX4, "get", "(I)I"⟩
def RX5 : String := "SwitchDesk$Plan"
def TX5 : u_T := fun k => match k with
  | 0 => ("SwitchDesk$Plan", "tape", "LSwitchDesk$Tape;", true)
  | 1 => ("SwitchDesk$Plan", "numbers", "LSwitchDesk$Numbers;", true)
  | 2 => ("SwitchDesk$Plan", "sums", "[I", true)
  | 3 => ("SwitchDesk$Plan", "leasts", "[I", true)
  | _ => ("SwitchDesk$Plan", "ends", "[I", true)
def tyX5 : Nat → FieldType := fun k => match k with
  | 0 => .object "SwitchDesk$Tape"
  | 1 => .object "SwitchDesk$Numbers"
  | 2 => .array .int
  | 3 => .array .int
  | _ => .array .int
abbrev wsX50 : List Cond := u_ws RX5 TX5 5
theorem nmX5 : ∀ a, a < 5 → ∀ b, b < 5 → a ≠ b → (TX5 a).2.1 ≠ (TX5 b).2.1 := by decide +kernel
theorem tyX5_ok : ∀ k, k < 5 → parseFieldDescriptor (TX5 k).2.2.1 = some (tyX5 k) := by decide +kernel
abbrev cX5_init : ByteArray := prog_7_method_1_code
def yX5_init : MethodName := ⟨RX5, "<init>", "(LSwitchDesk$Tape;LSwitchDesk$Numbers;)V"⟩
abbrev cX5_solve : ByteArray := prog_7_method_2_code
def yX5_solve : MethodName := ⟨RX5, "solve", "(LSwitchDesk$Shares;)I"⟩
abbrev cX5_firstEnd : ByteArray := prog_7_method_3_code
def yX5_firstEnd : MethodName := ⟨RX5, "firstEnd", "(II)I"⟩
abbrev cX5_costWith : ByteArray := prog_7_method_4_code
def yX5_costWith : MethodName := ⟨RX5, "costWith", "(III)I"⟩
abbrev cX5_sumOf : ByteArray := prog_7_method_5_code
def yX5_sumOf : MethodName := ⟨RX5, "sumOf", "(II)I"⟩
abbrev cX5_leastOf : ByteArray := prog_7_method_6_code
def yX5_leastOf : MethodName := ⟨RX5, "leastOf", "(II)I"⟩
abbrev cX5_isPart : ByteArray := prog_7_method_7_code
def yX5_isPart : MethodName := ⟨RX5, "isPart", "(II)Z"⟩
abbrev cX5_build : ByteArray := prog_7_method_8_code
def yX5_build : MethodName := ⟨RX5, "build", "(LSwitchDesk$Tray;)V"⟩
abbrev cX5_openAt : ByteArray := prog_7_method_9_code
def yX5_openAt : MethodName := ⟨RX5, "openAt", "(IILSwitchDesk$Tray;)I"⟩
def RX6 : String := "SwitchDesk$Shares"
def TX6 : u_T := fun k => match k with
  | 0 => ("SwitchDesk$Shares", "tray", "LSwitchDesk$Tray;", true)
  | 1 => ("SwitchDesk$Shares", "numbers", "LSwitchDesk$Numbers;", true)
  | 2 => ("SwitchDesk$Shares", "shares", "[I", true)
  | _ => ("SwitchDesk$Shares", "leasts", "[I", true)
def tyX6 : Nat → FieldType := fun k => match k with
  | 0 => .object "SwitchDesk$Tray"
  | 1 => .object "SwitchDesk$Numbers"
  | 2 => .array .int
  | _ => .array .int
abbrev wsX60 : List Cond := u_ws RX6 TX6 4
theorem nmX6 : ∀ a, a < 4 → ∀ b, b < 4 → a ≠ b → (TX6 a).2.1 ≠ (TX6 b).2.1 := by decide +kernel
theorem tyX6_ok : ∀ k, k < 4 → parseFieldDescriptor (TX6 k).2.2.1 = some (tyX6 k) := by decide +kernel
abbrev cX6_init : ByteArray := prog_8_method_1_code
def yX6_init : MethodName := ⟨RX6, "<init>", "(LSwitchDesk$Tray;LSwitchDesk$Numbers;)V"⟩
abbrev cX6_change : ByteArray := prog_8_method_2_code
def yX6_change : MethodName := ⟨RX6, "change", "(II)Z"⟩
abbrev cX6_shareOf : ByteArray := prog_8_method_3_code
def yX6_shareOf : MethodName := ⟨RX6, "shareOf", "(I)I"⟩
abbrev cX6_costOf : ByteArray := prog_8_method_4_code
def yX6_costOf : MethodName := ⟨RX6, "costOf", "(I)I"⟩
abbrev cX6_meanPart : ByteArray := prog_8_method_5_code
def yX6_meanPart : MethodName := ⟨RX6, "meanPart", "(I)J"⟩
abbrev cX6_findLeasts : ByteArray := prog_8_method_6_code
def yX6_findLeasts : MethodName := ⟨RX6, "findLeasts", "()V"⟩
abbrev cX6_commonDivisor : ByteArray := prog_8_method_7_code
def yX6_commonDivisor : MethodName := ⟨RX6, "commonDivisor", "(JJ)J"⟩
def RX7 : String := "SwitchDesk$Sheet"
def TX7 : u_T := fun k => match k with
  | 0 => ("SwitchDesk$Sheet", "empty", "LSwitchDesk$Chain;", true)
  | 1 => ("SwitchDesk$Sheet", "oldTexts", "[LSwitchDesk$Chain;", true)
  | 2 => ("SwitchDesk$Sheet", "oldSaids", "[LSwitchDesk$Chain;", true)
  | 3 => ("SwitchDesk$Sheet", "oldest", "I", false)
  | 4 => ("SwitchDesk$Sheet", "kept", "I", false)
  | 5 => ("SwitchDesk$Sheet", "text", "LSwitchDesk$Chain;", false)
  | _ => ("SwitchDesk$Sheet", "said", "LSwitchDesk$Chain;", false)
def tyX7 : Nat → FieldType := fun k => match k with
  | 0 => .object "SwitchDesk$Chain"
  | 1 => .array (.object "SwitchDesk$Chain")
  | 2 => .array (.object "SwitchDesk$Chain")
  | 3 => .int
  | 4 => .int
  | 5 => .object "SwitchDesk$Chain"
  | _ => .object "SwitchDesk$Chain"
abbrev wsX70 : List Cond := u_ws RX7 TX7 7
theorem nmX7 : ∀ a, a < 7 → ∀ b, b < 7 → a ≠ b → (TX7 a).2.1 ≠ (TX7 b).2.1 := by decide +kernel
theorem tyX7_ok : ∀ k, k < 7 → parseFieldDescriptor (TX7 k).2.2.1 = some (tyX7 k) := by decide +kernel
abbrev cX7_init : ByteArray := prog_9_method_1_code
def yX7_init : MethodName := ⟨RX7, "<init>", "()V"⟩
abbrev cX7_part : ByteArray := prog_9_method_2_code
def yX7_part : MethodName := ⟨RX7, "part", "(I)LSwitchDesk$Chain;"⟩
abbrev cX7_undoable : ByteArray := prog_9_method_3_code
def yX7_undoable : MethodName := ⟨RX7, "undoable", "()I"⟩
abbrev cX7_written : ByteArray := prog_9_method_4_code
def yX7_written : MethodName := ⟨RX7, "written", "()I"⟩
abbrev cX7_copyLast : ByteArray := prog_9_method_5_code
def yX7_copyLast : MethodName := ⟨RX7, "copyLast", "(I[I)V"⟩
abbrev cX7_write : ByteArray := prog_9_method_6_code
def yX7_write : MethodName := ⟨RX7, "write", "(I)V"⟩
abbrev cX7_dropLast : ByteArray := prog_9_method_7_code
def yX7_dropLast : MethodName := ⟨RX7, "dropLast", "()V"⟩
abbrev cX7_speak : ByteArray := prog_9_method_8_code
def yX7_speak : MethodName := ⟨RX7, "speak", "()V"⟩
abbrev cX7_complete : ByteArray := prog_9_method_9_code
def yX7_complete : MethodName := ⟨RX7, "complete", "(LSwitchDesk$Book;IZ)V"⟩
abbrev cX7_takeBack : ByteArray := prog_9_method_10_code
def yX7_takeBack : MethodName := ⟨RX7, "takeBack", "()V"⟩
abbrev cX7_keep : ByteArray := prog_9_method_11_code
def yX7_keep : MethodName := ⟨RX7, "keep", "()V"⟩
def RX8 : String := "SwitchDesk$Tape"
def TX8 : u_T := fun k => match k with
  | 0 => ("SwitchDesk$Tape", "signs", "[I", true)
  | _ => ("SwitchDesk$Tape", "size", "I", false)
def tyX8 : Nat → FieldType := fun k => match k with
  | 0 => .array .int
  | _ => .int
abbrev wsX80 : List Cond := u_ws RX8 TX8 2
theorem nmX8 : ∀ a, a < 2 → ∀ b, b < 2 → a ≠ b → (TX8 a).2.1 ≠ (TX8 b).2.1 := by decide +kernel
theorem tyX8_ok : ∀ k, k < 2 → parseFieldDescriptor (TX8 k).2.2.1 = some (tyX8 k) := by decide +kernel
abbrev cX8_init : ByteArray := prog_10_method_1_code
def yX8_init : MethodName := ⟨RX8, "<init>", "()V"⟩
abbrev cX8_take : ByteArray := prog_10_method_2_code
def yX8_take : MethodName := ⟨RX8, "take", "(II)I"⟩
abbrev cX8_fedByte : ByteArray := prog_10_method_3_code
def yX8_fedByte : MethodName := ⟨RX8, "fedByte", "(III)I"⟩
abbrev cX8_cut : ByteArray := prog_10_method_4_code
def yX8_cut : MethodName := ⟨RX8, "cut", "(I)Z"⟩
abbrev cX8_size : ByteArray := prog_10_method_5_code
def yX8_size : MethodName := ⟨RX8, "size", "()I"⟩
abbrev cX8_signAt : ByteArray := prog_10_method_6_code
def yX8_signAt : MethodName := ⟨RX8, "signAt", "(I)I"⟩
abbrev cX8_isWord : ByteArray := prog_10_method_7_code
def yX8_isWord : MethodName := ⟨RX8, "isWord", "()Z"⟩
abbrev cX8_isRow : ByteArray := prog_10_method_8_code
def yX8_isRow : MethodName := ⟨RX8, "isRow", "()Z"⟩
abbrev cX8_lettersAlone : ByteArray := prog_10_method_9_code
def yX8_lettersAlone : MethodName := ⟨RX8, "lettersAlone", "()Z"⟩
def RX9 : String := "SwitchDesk$Tray"
def TX9 : u_T := fun k => match k with
  | 0 => ("SwitchDesk$Tray", "kinds", "[I", true)
  | 1 => ("SwitchDesk$Tray", "values", "[I", true)
  | 2 => ("SwitchDesk$Tray", "groups", "[I", true)
  | 3 => ("SwitchDesk$Tray", "places", "[I", true)
  | 4 => ("SwitchDesk$Tray", "lights", "[I", true)
  | 5 => ("SwitchDesk$Tray", "firsts", "[I", true)
  | 6 => ("SwitchDesk$Tray", "lasts", "[I", true)
  | 7 => ("SwitchDesk$Tray", "nexts", "[I", true)
  | 8 => ("SwitchDesk$Tray", "lighted", "[Z", true)
  | 9 => ("SwitchDesk$Tray", "neighbours", "[I", true)
  | _ => ("SwitchDesk$Tray", "size", "I", false)
def tyX9 : Nat → FieldType := fun k => match k with
  | 0 => .array .int
  | 1 => .array .int
  | 2 => .array .int
  | 3 => .array .int
  | 4 => .array .int
  | 5 => .array .int
  | 6 => .array .int
  | 7 => .array .int
  | 8 => .array .boolean
  | 9 => .array .int
  | _ => .int
abbrev wsX90 : List Cond := u_ws RX9 TX9 11
theorem nmX9 : ∀ a, a < 11 → ∀ b, b < 11 → a ≠ b → (TX9 a).2.1 ≠ (TX9 b).2.1 := by decide +kernel
theorem tyX9_ok : ∀ k, k < 11 → parseFieldDescriptor (TX9 k).2.2.1 = some (tyX9 k) := by decide +kernel
abbrev cX9_init : ByteArray := prog_11_method_1_code
def yX9_init : MethodName := ⟨RX9, "<init>", "()V"⟩
abbrev cX9_empty : ByteArray := prog_11_method_2_code
def yX9_empty : MethodName := ⟨RX9, "empty", "()V"⟩
abbrev cX9_add : ByteArray := prog_11_method_3_code
def yX9_add : MethodName := ⟨RX9, "add", "(III)I"⟩
abbrev cX9_takes : ByteArray := prog_11_method_4_code
def yX9_takes : MethodName := ⟨RX9, "takes", "(II)Z"⟩
abbrev cX9_hasValue : ByteArray := prog_11_method_5_code
def yX9_hasValue : MethodName := ⟨RX9, "hasValue", "(I)Z"⟩
abbrev cX9_findLights : ByteArray := prog_11_method_6_code
def yX9_findLights : MethodName := ⟨RX9, "findLights", "()V"⟩
abbrev cX9_findLighted : ByteArray := prog_11_method_7_code
def yX9_findLighted : MethodName := ⟨RX9, "findLighted", "()V"⟩
abbrev cX9_standBehind : ByteArray := prog_11_method_8_code
def yX9_standBehind : MethodName := ⟨RX9, "standBehind", "(II)V"⟩
abbrev cX9_join : ByteArray := prog_11_method_9_code
def yX9_join : MethodName := ⟨RX9, "join", "(II)V"⟩
abbrev cX9_has : ByteArray := prog_11_method_10_code
def yX9_has : MethodName := ⟨RX9, "has", "(I)Z"⟩
abbrev cX9_size : ByteArray := prog_11_method_11_code
def yX9_size : MethodName := ⟨RX9, "size", "()I"⟩
abbrev cX9_kindOf : ByteArray := prog_11_method_12_code
def yX9_kindOf : MethodName := ⟨RX9, "kindOf", "(I)I"⟩
abbrev cX9_valueOf : ByteArray := prog_11_method_13_code
def yX9_valueOf : MethodName := ⟨RX9, "valueOf", "(I)I"⟩
abbrev cX9_groupOf : ByteArray := prog_11_method_14_code
def yX9_groupOf : MethodName := ⟨RX9, "groupOf", "(I)I"⟩
abbrev cX9_placeOf : ByteArray := prog_11_method_15_code
def yX9_placeOf : MethodName := ⟨RX9, "placeOf", "(I)I"⟩
abbrev cX9_lightsOf : ByteArray := prog_11_method_16_code
def yX9_lightsOf : MethodName := ⟨RX9, "lightsOf", "(I)I"⟩
abbrev cX9_firstIn : ByteArray := prog_11_method_17_code
def yX9_firstIn : MethodName := ⟨RX9, "firstIn", "(I)I"⟩
abbrev cX9_behind : ByteArray := prog_11_method_18_code
def yX9_behind : MethodName := ⟨RX9, "behind", "(I)I"⟩
abbrev cX9_areNeighbours : ByteArray := prog_11_method_19_code
def yX9_areNeighbours : MethodName := ⟨RX9, "areNeighbours", "(II)Z"⟩
def RX10 : String := "SwitchDesk"
def TX10 : u_T := fun k => match k with
  | 0 => ("SwitchDesk", "numbers", "LSwitchDesk$Numbers;", true)
  | 1 => ("SwitchDesk", "tray", "LSwitchDesk$Tray;", true)
  | 2 => ("SwitchDesk", "lamp", "LSwitchDesk$Lamp;", true)
  | 3 => ("SwitchDesk", "sheet", "LSwitchDesk$Sheet;", true)
  | 4 => ("SwitchDesk", "tape", "LSwitchDesk$Tape;", true)
  | 5 => ("SwitchDesk", "book", "LSwitchDesk$Book;", true)
  | 6 => ("SwitchDesk", "finder", "LSwitchDesk$Finder;", true)
  | 7 => ("SwitchDesk", "shares", "LSwitchDesk$Shares;", true)
  | _ => ("SwitchDesk", "plan", "LSwitchDesk$Plan;", true)
def tyX10 : Nat → FieldType := fun k => match k with
  | 0 => .object "SwitchDesk$Numbers"
  | 1 => .object "SwitchDesk$Tray"
  | 2 => .object "SwitchDesk$Lamp"
  | 3 => .object "SwitchDesk$Sheet"
  | 4 => .object "SwitchDesk$Tape"
  | 5 => .object "SwitchDesk$Book"
  | 6 => .object "SwitchDesk$Finder"
  | 7 => .object "SwitchDesk$Shares"
  | _ => .object "SwitchDesk$Plan"
abbrev wsX100 : List Cond := u_ws RX10 TX10 9
theorem nmX10 : ∀ a, a < 9 → ∀ b, b < 9 → a ≠ b → (TX10 a).2.1 ≠ (TX10 b).2.1 := by decide +kernel
theorem tyX10_ok : ∀ k, k < 9 → parseFieldDescriptor (TX10 k).2.2.1 = some (tyX10 k) := by decide +kernel
abbrev cX10_init : ByteArray := prog_1_method_1_code
def yX10_init : MethodName := ⟨RX10, "<init>", "()V"⟩
abbrev cX10_node : ByteArray := prog_1_method_2_code
def yX10_node : MethodName := ⟨RX10, "node", "(III)I"⟩
abbrev cX10_clear : ByteArray := prog_1_method_3_code
def yX10_clear : MethodName := ⟨RX10, "clear", "()V"⟩
abbrev cX10_told : ByteArray := prog_1_method_4_code
def yX10_told : MethodName := ⟨RX10, "told", "(II)I"⟩
abbrev cX10_set : ByteArray := prog_1_method_5_code
def yX10_set : MethodName := ⟨RX10, "set", "(II)Z"⟩
abbrev cX10_tick : ByteArray := prog_1_method_6_code
def yX10_tick : MethodName := ⟨RX10, "tick", "(I)I"⟩
abbrev cX10_press : ByteArray := prog_1_method_7_code
def yX10_press : MethodName := ⟨RX10, "press", "()I"⟩
abbrev cX10_state : ByteArray := prog_1_method_8_code
def yX10_state : MethodName := ⟨RX10, "state", "(I)I"⟩
abbrev cX10_length : ByteArray := prog_1_method_9_code
def yX10_length : MethodName := ⟨RX10, "length", "(I)I"⟩
abbrev cX10_at : ByteArray := prog_1_method_10_code
def yX10_at : MethodName := ⟨RX10, "at", "(II)I"⟩
abbrev cX10_feed : ByteArray := prog_1_method_11_code
def yX10_feed : MethodName := ⟨RX10, "feed", "(II)I"⟩
abbrev cX10_end : ByteArray := prog_1_method_12_code
def yX10_end : MethodName := ⟨RX10, "end", "(I)Z"⟩
abbrev cX10_word : ByteArray := prog_1_method_13_code
def yX10_word : MethodName := ⟨RX10, "word", "(I)I"⟩
abbrev cX10_letter : ByteArray := prog_1_method_14_code
def yX10_letter : MethodName := ⟨RX10, "letter", "(II)I"⟩
abbrev cX10_foreseen : ByteArray := prog_1_method_15_code
def yX10_foreseen : MethodName := ⟨RX10, "foreseen", "(I)I"⟩
abbrev cX10_offered : ByteArray := prog_1_method_16_code
def yX10_offered : MethodName := ⟨RX10, "offered", "(I)I"⟩
abbrev cX10_near : ByteArray := prog_1_method_17_code
def yX10_near : MethodName := ⟨RX10, "near", "(II)I"⟩
abbrev cX10_share : ByteArray := prog_1_method_18_code
def yX10_share : MethodName := ⟨RX10, "share", "(II)Z"⟩
abbrev cX10_cost : ByteArray := prog_1_method_19_code
def yX10_cost : MethodName := ⟨RX10, "cost", "(I)I"⟩
abbrev cX10_mean : ByteArray := prog_1_method_20_code
def yX10_mean : MethodName := ⟨RX10, "mean", "(I)J"⟩
abbrev cX10_lay : ByteArray := prog_1_method_21_code
def yX10_lay : MethodName := ⟨RX10, "lay", "()I"⟩
abbrev cX10_count : ByteArray := prog_1_method_22_code
def yX10_count : MethodName := ⟨RX10, "count", "(I)I"⟩
abbrev cX10_showTrayAnew : ByteArray := prog_1_method_23_code
def yX10_showTrayAnew : MethodName := ⟨RX10, "showTrayAnew", "()V"⟩
abbrev cX10_act : ByteArray := prog_1_method_24_code
def yX10_act : MethodName := ⟨RX10, "act", "(I)V"⟩
abbrev cX10_isLetter : ByteArray := prog_1_method_25_code
def yX10_isLetter : MethodName := ⟨RX10, "isLetter", "(I)Z"⟩
abbrev cX10_within : ByteArray := prog_1_method_26_code
def yX10_within : MethodName := ⟨RX10, "within", "(III)Z"⟩
def RX11 : String := "SwitchDeskModel"
def TX11 : u_T := fun k => match k with
  | 0 => ("SwitchDeskModel", "thrown", "I", false)
  | 1 => ("SwitchDeskModel", "kind", "[I", true)
  | 2 => ("SwitchDeskModel", "value", "[I", true)
  | 3 => ("SwitchDeskModel", "in", "[I", true)
  | 4 => ("SwitchDeskModel", "number", "[I", true)
  | 5 => ("SwitchDeskModel", "nodes", "I", false)
  | 6 => ("SwitchDeskModel", "keyed", "[Z", true)
  | 7 => ("SwitchDeskModel", "lightRow", "[I", true)
  | 8 => ("SwitchDeskModel", "lightMany", "[I", true)
  | 9 => ("SwitchDeskModel", "place", "[I", true)
  | 10 => ("SwitchDeskModel", "now", "I", false)
  | 11 => ("SwitchDeskModel", "at", "I", false)
  | 12 => ("SwitchDeskModel", "lit", "I", false)
  | 13 => ("SwitchDeskModel", "before", "I", false)
  | 14 => ("SwitchDeskModel", "changed", "I", false)
  | 15 => ("SwitchDeskModel", "rounds", "I", false)
  | 16 => ("SwitchDeskModel", "presses", "I", false)
  | 17 => ("SwitchDeskModel", "lastPress", "I", false)
  | 18 => ("SwitchDeskModel", "text", "[B", true)
  | 19 => ("SwitchDeskModel", "said", "[B", true)
  | 20 => ("SwitchDeskModel", "keptText", "[B", true)
  | 21 => ("SwitchDeskModel", "keptSaid", "[B", true)
  | 22 => ("SwitchDeskModel", "keptTextLong", "[I", true)
  | 23 => ("SwitchDeskModel", "keptSaidLong", "[I", true)
  | 24 => ("SwitchDeskModel", "textLong", "I", false)
  | 25 => ("SwitchDeskModel", "saidLong", "I", false)
  | 26 => ("SwitchDeskModel", "kept", "I", false)
  | 27 => ("SwitchDeskModel", "tape", "[B", true)
  | 28 => ("SwitchDeskModel", "word", "[B", true)
  | 29 => ("SwitchDeskModel", "wordLong", "[I", true)
  | 30 => ("SwitchDeskModel", "count", "[I", true)
  | 31 => ("SwitchDeskModel", "tapeLong", "I", false)
  | 32 => ("SwitchDeskModel", "words", "I", false)
  | 33 => ("SwitchDeskModel", "mark", "[I", true)
  | 34 => ("SwitchDeskModel", "share", "[I", true)
  | 35 => ("SwitchDeskModel", "rest", "[J", true)
  | 36 => ("SwitchDeskModel", "inside", "[J", true)
  | _ => ("SwitchDeskModel", "row", "[B", true)
def tyX11 : Nat → FieldType := fun k => match k with
  | 0 => .int
  | 1 => .array .int
  | 2 => .array .int
  | 3 => .array .int
  | 4 => .array .int
  | 5 => .int
  | 6 => .array .boolean
  | 7 => .array .int
  | 8 => .array .int
  | 9 => .array .int
  | 10 => .int
  | 11 => .int
  | 12 => .int
  | 13 => .int
  | 14 => .int
  | 15 => .int
  | 16 => .int
  | 17 => .int
  | 18 => .array .byte
  | 19 => .array .byte
  | 20 => .array .byte
  | 21 => .array .byte
  | 22 => .array .int
  | 23 => .array .int
  | 24 => .int
  | 25 => .int
  | 26 => .int
  | 27 => .array .byte
  | 28 => .array .byte
  | 29 => .array .int
  | 30 => .array .int
  | 31 => .int
  | 32 => .int
  | 33 => .array .int
  | 34 => .array .int
  | 35 => .array .long
  | 36 => .array .long
  | _ => .array .byte
abbrev wsX110 : List Cond := u_ws RX11 TX11 38
theorem nmX11 : ∀ a, a < 38 → ∀ b, b < 38 → a ≠ b → (TX11 a).2.1 ≠ (TX11 b).2.1 := by decide +kernel
theorem tyX11_ok : ∀ k, k < 38 → parseFieldDescriptor (TX11 k).2.2.1 = some (tyX11 k) := by decide +kernel
abbrev cX11_init : ByteArray := prog_13_method_1_code
def yX11_init : MethodName := ⟨RX11, "<init>", "()V"⟩
abbrev cX11_thrown : ByteArray := prog_13_method_2_code
def yX11_thrown : MethodName := ⟨RX11, "thrown", "()I"⟩
abbrev cX11_isIn : ByteArray := prog_13_method_3_code
def yX11_isIn : MethodName := ⟨RX11, "isIn", "(III)Z"⟩
abbrev cX11_isNode : ByteArray := prog_13_method_4_code
def yX11_isNode : MethodName := ⟨RX11, "isNode", "(I)Z"⟩
abbrev cX11_isSmall : ByteArray := prog_13_method_5_code
def yX11_isSmall : MethodName := ⟨RX11, "isSmall", "(I)Z"⟩
abbrev cX11_looks : ByteArray := prog_13_method_6_code
def yX11_looks : MethodName := ⟨RX11, "looks", "()V"⟩
abbrev cX11_hasKey : ByteArray := prog_13_method_7_code
def yX11_hasKey : MethodName := ⟨RX11, "hasKey", "(I)Z"⟩
abbrev cX11_light : ByteArray := prog_13_method_8_code
def yX11_light : MethodName := ⟨RX11, "light", "(II)I"⟩
abbrev cX11_lights : ByteArray := prog_13_method_9_code
def yX11_lights : MethodName := ⟨RX11, "lights", "(I)I"⟩
abbrev cX11_placeOf : ByteArray := prog_13_method_10_code
def yX11_placeOf : MethodName := ⟨RX11, "placeOf", "(I)I"⟩
abbrev cX11_comes : ByteArray := prog_13_method_11_code
def yX11_comes : MethodName := ⟨RX11, "comes", "(I)V"⟩
abbrev cX11_node : ByteArray := prog_13_method_12_code
def yX11_node : MethodName := ⟨RX11, "node", "(III)I"⟩
abbrev cX11_adds : ByteArray := prog_13_method_13_code
def yX11_adds : MethodName := ⟨RX11, "adds", "(III)I"⟩
abbrev cX11_clear : ByteArray := prog_13_method_14_code
def yX11_clear : MethodName := ⟨RX11, "clear", "()V"⟩
abbrev cX11_told : ByteArray := prog_13_method_15_code
def yX11_told : MethodName := ⟨RX11, "told", "(II)I"⟩
abbrev cX11_set : ByteArray := prog_13_method_16_code
def yX11_set : MethodName := ⟨RX11, "set", "(II)Z"⟩
abbrev cX11_tick : ByteArray := prog_13_method_17_code
def yX11_tick : MethodName := ⟨RX11, "tick", "(I)I"⟩
abbrev cX11_ticks : ByteArray := prog_13_method_18_code
def yX11_ticks : MethodName := ⟨RX11, "ticks", "()V"⟩
abbrev cX11_press : ByteArray := prog_13_method_19_code
def yX11_press : MethodName := ⟨RX11, "press", "()I"⟩
abbrev cX11_state : ByteArray := prog_13_method_20_code
def yX11_state : MethodName := ⟨RX11, "state", "(I)I"⟩
abbrev cX11_keep : ByteArray := prog_13_method_21_code
def yX11_keep : MethodName := ⟨RX11, "keep", "()V"⟩
abbrev cX11_undo : ByteArray := prog_13_method_22_code
def yX11_undo : MethodName := ⟨RX11, "undo", "()V"⟩
abbrev cX11_put : ByteArray := prog_13_method_23_code
def yX11_put : MethodName := ⟨RX11, "put", "(I)V"⟩
abbrev cX11_acts : ByteArray := prog_13_method_24_code
def yX11_acts : MethodName := ⟨RX11, "acts", "(I)V"⟩
abbrev cX11_length : ByteArray := prog_13_method_25_code
def yX11_length : MethodName := ⟨RX11, "length", "(I)I"⟩
abbrev cX11_at : ByteArray := prog_13_method_26_code
def yX11_at : MethodName := ⟨RX11, "at", "(II)I"⟩
abbrev cX11_bytesIn : ByteArray := prog_13_method_27_code
def yX11_bytesIn : MethodName := ⟨RX11, "bytesIn", "(I)I"⟩
abbrev cX11_feed : ByteArray := prog_13_method_28_code
def yX11_feed : MethodName := ⟨RX11, "feed", "(II)I"⟩
abbrev cX11_end : ByteArray := prog_13_method_29_code
def yX11_end : MethodName := ⟨RX11, "end", "(I)Z"⟩
abbrev cX11_isRow : ByteArray := prog_13_method_30_code
def yX11_isRow : MethodName := ⟨RX11, "isRow", "()Z"⟩
abbrev cX11_word : ByteArray := prog_13_method_31_code
def yX11_word : MethodName := ⟨RX11, "word", "(I)I"⟩
abbrev cX11_isWord : ByteArray := prog_13_method_32_code
def yX11_isWord : MethodName := ⟨RX11, "isWord", "(I)Z"⟩
abbrev cX11_letter : ByteArray := prog_13_method_33_code
def yX11_letter : MethodName := ⟨RX11, "letter", "(II)I"⟩
abbrev cX11_written : ByteArray := prog_13_method_34_code
def yX11_written : MethodName := ⟨RX11, "written", "()I"⟩
abbrev cX11_ranked : ByteArray := prog_13_method_35_code
def yX11_ranked : MethodName := ⟨RX11, "ranked", "(I)I"⟩
abbrev cX11_foreseenAt : ByteArray := prog_13_method_36_code
def yX11_foreseenAt : MethodName := ⟨RX11, "foreseenAt", "(I)I"⟩
abbrev cX11_areNear : ByteArray := prog_13_method_37_code
def yX11_areNear : MethodName := ⟨RX11, "areNear", "(II)Z"⟩
abbrev cX11_near : ByteArray := prog_13_method_38_code
def yX11_near : MethodName := ⟨RX11, "near", "(II)I"⟩
abbrev cX11_offeredAt : ByteArray := prog_13_method_39_code
def yX11_offeredAt : MethodName := ⟨RX11, "offeredAt", "(I)I"⟩
abbrev cX11_foreseen : ByteArray := prog_13_method_40_code
def yX11_foreseen : MethodName := ⟨RX11, "foreseen", "(I)I"⟩
abbrev cX11_offered : ByteArray := prog_13_method_41_code
def yX11_offered : MethodName := ⟨RX11, "offered", "(I)I"⟩
abbrev cX11_share : ByteArray := prog_13_method_42_code
def yX11_share : MethodName := ⟨RX11, "share", "(II)Z"⟩
abbrev cX11_costOf : ByteArray := prog_13_method_43_code
def yX11_costOf : MethodName := ⟨RX11, "costOf", "(I)I"⟩
abbrev cX11_cost : ByteArray := prog_13_method_44_code
def yX11_cost : MethodName := ⟨RX11, "cost", "(I)I"⟩
abbrev cX11_mean : ByteArray := prog_13_method_45_code
def yX11_mean : MethodName := ⟨RX11, "mean", "(I)J"⟩
abbrev cX11_weight : ByteArray := prog_13_method_46_code
def yX11_weight : MethodName := ⟨RX11, "weight", "(II)J"⟩
abbrev cX11_index : ByteArray := prog_13_method_47_code
def yX11_index : MethodName := ⟨RX11, "index", "(III)I"⟩
abbrev cX11_item : ByteArray := prog_13_method_48_code
def yX11_item : MethodName := ⟨RX11, "item", "(III)J"⟩
abbrev cX11_sums : ByteArray := prog_13_method_49_code
def yX11_sums : MethodName := ⟨RX11, "sums", "(I)V"⟩
abbrev cX11_lays : ByteArray := prog_13_method_50_code
def yX11_lays : MethodName := ⟨RX11, "lays", "(IIIIZ)V"⟩
abbrev cX11_lay : ByteArray := prog_13_method_51_code
def yX11_lay : MethodName := ⟨RX11, "lay", "()I"⟩
abbrev cX11_count : ByteArray := prog_13_method_52_code
def yX11_count : MethodName := ⟨RX11, "count", "(I)I"⟩
def RJ9 : String := "java/lang/Math"
def TJ9 : u_T := fun k => match k with
  | _ => ("", "", "", false)
def tyJ9 : Nat → FieldType := fun k => match k with
  | _ => .int
abbrev wsJ90 : List Cond := u_ws RJ9 TJ9 0
theorem nmJ9 : ∀ a, a < 0 → ∀ b, b < 0 → a ≠ b → (TJ9 a).2.1 ≠ (TJ9 b).2.1 := by decide +kernel
theorem tyJ9_ok : ∀ k, k < 0 → parseFieldDescriptor (TJ9 k).2.2.1 = some (tyJ9 k) := by decide +kernel
abbrev cJ9_max_7cf53 : ByteArray := prog_15_method_65_code
def yJ9_max_7cf53 : MethodName := ⟨RJ9, "max", "(II)I"⟩
abbrev cJ9_min_7cf53 : ByteArray := prog_15_method_69_code
def yJ9_min_7cf53 : MethodName := ⟨RJ9, "min", "(II)I"⟩
abbrev cJ9_min_f86c9 : ByteArray := prog_15_method_70_code
def yJ9_min_f86c9 : MethodName := ⟨RJ9, "min", "(JJ)J"⟩
def RJ7 : String := "java/util/Arrays"
def TJ7 : u_T := fun k => match k with
  | _ => ("", "", "", false)
def tyJ7 : Nat → FieldType := fun k => match k with
  | _ => .int
abbrev wsJ70 : List Cond := u_ws RJ7 TJ7 0
theorem nmJ7 : ∀ a, a < 0 → ∀ b, b < 0 → a ≠ b → (TJ7 a).2.1 ≠ (TJ7 b).2.1 := by decide +kernel
theorem tyJ7_ok : ∀ k, k < 0 → parseFieldDescriptor (TJ7 k).2.2.1 = some (tyJ7 k) := by decide +kernel
abbrev cJ7_fill_53178 : ByteArray := prog_18_method_103_code
def yJ7_fill_53178 : MethodName := ⟨RJ7, "fill", "([II)V"⟩
def RL : String := "SwitchDeskLaw"
abbrev cL_at : ByteArray := method_3_code
def yL_at : MethodName := ⟨RL, "at", "(LSwitchDesk;II[J)I"⟩
abbrev cL_letter : ByteArray := method_4_code
def yL_letter : MethodName := ⟨RL, "letter", "(LSwitchDesk;II[J)I"⟩
abbrev cL_law : ByteArray := code
def yL_law : MethodName := ⟨RL, "law", "([I)Z"⟩
abbrev vwCl : List vw_C := [(RX0, TX0, 4), (RX1, TX1, 3), (RX2, TX2, 7), (RX3, TX3, 10), (RX4, TX4, 1), (RX5, TX5, 5), (RX6, TX6, 4), (RX7, TX7, 7), (RX8, TX8, 2), (RX9, TX9, 11), (RX10, TX10, 9), (RX11, TX11, 38)]
