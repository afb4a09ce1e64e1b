section
-- ===== PART A: goes FIRST, ahead of the names: the tables' words, and 'selects' of the private methods out of them =====
/-- a private method of a class that the tables say can be made, by its rows of tables_1 -/
def lw_okq (q : MethodName × Nat) : Prop := (q.1.cls ≠ "java/lang/invoke/MethodHandle" ∧ q.1.cls ≠ "java/lang/invoke/VarHandle") ∧ Cond.instantiable q.1.cls q.2 ∈ tables_1 ∧ Cond.privateMethod q.1 ∈ tables_1 ∧ Cond.instanceMethod q.1 ∈ tables_1
theorem lw_p0 : lw_okq (⟨"SwitchDesk$Tray", "findLighted", "()V"⟩, 11) := ⟨⟨by decide +kernel, by decide +kernel⟩, List.mem_of_getElem? (i := 39) (by decide +kernel), List.mem_of_getElem? (i := 53) (by decide +kernel), List.mem_of_getElem? (i := 54) (by decide +kernel)⟩
theorem lw_p1 : lw_okq (⟨"SwitchDesk$Tray", "standBehind", "(II)V"⟩, 11) := ⟨⟨by decide +kernel, by decide +kernel⟩, List.mem_of_getElem? (i := 39) (by decide +kernel), List.mem_of_getElem? (i := 64) (by decide +kernel), List.mem_of_getElem? (i := 65) (by decide +kernel)⟩
theorem lw_p2 : lw_okq (⟨"SwitchDesk$Tray", "join", "(II)V"⟩, 11) := ⟨⟨by decide +kernel, by decide +kernel⟩, List.mem_of_getElem? (i := 39) (by decide +kernel), List.mem_of_getElem? (i := 68) (by decide +kernel), List.mem_of_getElem? (i := 69) (by decide +kernel)⟩
theorem lw_p3 : lw_okq (⟨"SwitchDesk", "showTrayAnew", "()V"⟩, 9) := ⟨⟨by decide +kernel, by decide +kernel⟩, List.mem_of_getElem? (i := 20) (by decide +kernel), List.mem_of_getElem? (i := 355) (by decide +kernel), List.mem_of_getElem? (i := 356) (by decide +kernel)⟩
theorem lw_p4 : lw_okq (⟨"SwitchDesk$Lamp", "change", "()V"⟩, 10) := ⟨⟨by decide +kernel, by decide +kernel⟩, List.mem_of_getElem? (i := 110) (by decide +kernel), List.mem_of_getElem? (i := 418) (by decide +kernel), List.mem_of_getElem? (i := 419) (by decide +kernel)⟩
theorem lw_p5 : lw_okq (⟨"SwitchDesk", "act", "(I)V"⟩, 9) := ⟨⟨by decide +kernel, by decide +kernel⟩, List.mem_of_getElem? (i := 20) (by decide +kernel), List.mem_of_getElem? (i := 434) (by decide +kernel), List.mem_of_getElem? (i := 435) (by decide +kernel)⟩
theorem lw_p6 : lw_okq (⟨"SwitchDesk$Sheet", "keep", "()V"⟩, 7) := ⟨⟨by decide +kernel, by decide +kernel⟩, List.mem_of_getElem? (i := 155) (by decide +kernel), List.mem_of_getElem? (i := 442) (by decide +kernel), List.mem_of_getElem? (i := 443) (by decide +kernel)⟩
theorem lw_p7 : lw_okq (⟨"SwitchDesk$Finder", "readWritten", "()I"⟩, 7) := ⟨⟨by decide +kernel, by decide +kernel⟩, List.mem_of_getElem? (i := 237) (by decide +kernel), List.mem_of_getElem? (i := 466) (by decide +kernel), List.mem_of_getElem? (i := 467) (by decide +kernel)⟩
theorem lw_p8 : lw_okq (⟨"SwitchDesk$Book", "has", "(I)Z"⟩, 4) := ⟨⟨by decide +kernel, by decide +kernel⟩, List.mem_of_getElem? (i := 218) (by decide +kernel), List.mem_of_getElem? (i := 487) (by decide +kernel), List.mem_of_getElem? (i := 488) (by decide +kernel)⟩
theorem lw_p9 : lw_okq (⟨"SwitchDesk$Finder", "enlist", "(II)V"⟩, 7) := ⟨⟨by decide +kernel, by decide +kernel⟩, List.mem_of_getElem? (i := 237) (by decide +kernel), List.mem_of_getElem? (i := 500) (by decide +kernel), List.mem_of_getElem? (i := 501) (by decide +kernel)⟩
theorem lw_p10 : lw_okq (⟨"SwitchDesk$Finder", "isBetter", "(III)Z"⟩, 7) := ⟨⟨by decide +kernel, by decide +kernel⟩, List.mem_of_getElem? (i := 237) (by decide +kernel), List.mem_of_getElem? (i := 504) (by decide +kernel), List.mem_of_getElem? (i := 505) (by decide +kernel)⟩
theorem lw_p11 : lw_okq (⟨"SwitchDesk$Finder", "slipsOf", "(II)I"⟩, 7) := ⟨⟨by decide +kernel, by decide +kernel⟩, List.mem_of_getElem? (i := 237) (by decide +kernel), List.mem_of_getElem? (i := 532) (by decide +kernel), List.mem_of_getElem? (i := 533) (by decide +kernel)⟩
theorem lw_p12 : lw_okq (⟨"SwitchDesk$Tape", "lettersAlone", "()Z"⟩, 2) := ⟨⟨by decide +kernel, by decide +kernel⟩, List.mem_of_getElem? (i := 204) (by decide +kernel), List.mem_of_getElem? (i := 594) (by decide +kernel), List.mem_of_getElem? (i := 595) (by decide +kernel)⟩
theorem lw_p13 : lw_okq (⟨"SwitchDesk$Book", "add", "(LSwitchDesk$Tape;)I"⟩, 4) := ⟨⟨by decide +kernel, by decide +kernel⟩, List.mem_of_getElem? (i := 218) (by decide +kernel), List.mem_of_getElem? (i := 604) (by decide +kernel), List.mem_of_getElem? (i := 605) (by decide +kernel)⟩
theorem lw_p14 : lw_okq (⟨"SwitchDesk$Shares", "findLeasts", "()V"⟩, 4) := ⟨⟨by decide +kernel, by decide +kernel⟩, List.mem_of_getElem? (i := 265) (by decide +kernel), List.mem_of_getElem? (i := 659) (by decide +kernel), List.mem_of_getElem? (i := 660) (by decide +kernel)⟩
theorem lw_p15 : lw_okq (⟨"SwitchDesk$Plan", "firstEnd", "(II)I"⟩, 5) := ⟨⟨by decide +kernel, by decide +kernel⟩, List.mem_of_getElem? (i := 284) (by decide +kernel), List.mem_of_getElem? (i := 693) (by decide +kernel), List.mem_of_getElem? (i := 694) (by decide +kernel)⟩
def lw_privs_1 : List (MethodName × Nat) := [(⟨"SwitchDesk$Tray", "findLighted", "()V"⟩, 11), (⟨"SwitchDesk$Tray", "standBehind", "(II)V"⟩, 11), (⟨"SwitchDesk$Tray", "join", "(II)V"⟩, 11), (⟨"SwitchDesk", "showTrayAnew", "()V"⟩, 9), (⟨"SwitchDesk$Lamp", "change", "()V"⟩, 10), (⟨"SwitchDesk", "act", "(I)V"⟩, 9), (⟨"SwitchDesk$Sheet", "keep", "()V"⟩, 7), (⟨"SwitchDesk$Finder", "readWritten", "()I"⟩, 7), (⟨"SwitchDesk$Book", "has", "(I)Z"⟩, 4), (⟨"SwitchDesk$Finder", "enlist", "(II)V"⟩, 7), (⟨"SwitchDesk$Finder", "isBetter", "(III)Z"⟩, 7), (⟨"SwitchDesk$Finder", "slipsOf", "(II)I"⟩, 7), (⟨"SwitchDesk$Tape", "lettersAlone", "()Z"⟩, 2), (⟨"SwitchDesk$Book", "add", "(LSwitchDesk$Tape;)I"⟩, 4), (⟨"SwitchDesk$Shares", "findLeasts", "()V"⟩, 4), (⟨"SwitchDesk$Plan", "firstEnd", "(II)I"⟩, 5)]
theorem lw_r1 : ∀ q ∈ lw_privs_1, lw_okq q := List.forall_mem_cons.mpr ⟨lw_p0, List.forall_mem_cons.mpr ⟨lw_p1, List.forall_mem_cons.mpr ⟨lw_p2, List.forall_mem_cons.mpr ⟨lw_p3, List.forall_mem_cons.mpr ⟨lw_p4, List.forall_mem_cons.mpr ⟨lw_p5, List.forall_mem_cons.mpr ⟨lw_p6, List.forall_mem_cons.mpr ⟨lw_p7, List.forall_mem_cons.mpr ⟨lw_p8, List.forall_mem_cons.mpr ⟨lw_p9, List.forall_mem_cons.mpr ⟨lw_p10, List.forall_mem_cons.mpr ⟨lw_p11, List.forall_mem_cons.mpr ⟨lw_p12, List.forall_mem_cons.mpr ⟨lw_p13, List.forall_mem_cons.mpr ⟨lw_p14, List.forall_mem_cons.mpr ⟨lw_p15, fun _ h => absurd h List.not_mem_nil⟩⟩⟩⟩⟩⟩⟩⟩⟩⟩⟩⟩⟩⟩⟩⟩
theorem lw_p16 : lw_okq (⟨"SwitchDesk$Plan", "costWith", "(III)I"⟩, 5) := ⟨⟨by decide +kernel, by decide +kernel⟩, List.mem_of_getElem? (i := 284) (by decide +kernel), List.mem_of_getElem? (i := 697) (by decide +kernel), List.mem_of_getElem? (i := 698) (by decide +kernel)⟩
theorem lw_p17 : lw_okq (⟨"SwitchDesk$Plan", "leastOf", "(II)I"⟩, 5) := ⟨⟨by decide +kernel, by decide +kernel⟩, List.mem_of_getElem? (i := 284) (by decide +kernel), List.mem_of_getElem? (i := 701) (by decide +kernel), List.mem_of_getElem? (i := 702) (by decide +kernel)⟩
theorem lw_p18 : lw_okq (⟨"SwitchDesk$Plan", "sumOf", "(II)I"⟩, 5) := ⟨⟨by decide +kernel, by decide +kernel⟩, List.mem_of_getElem? (i := 284) (by decide +kernel), List.mem_of_getElem? (i := 709) (by decide +kernel), List.mem_of_getElem? (i := 710) (by decide +kernel)⟩
theorem lw_p19 : lw_okq (⟨"SwitchDesk$Plan", "openAt", "(IILSwitchDesk$Tray;)I"⟩, 5) := ⟨⟨by decide +kernel, by decide +kernel⟩, List.mem_of_getElem? (i := 284) (by decide +kernel), List.mem_of_getElem? (i := 717) (by decide +kernel), List.mem_of_getElem? (i := 718) (by decide +kernel)⟩
theorem lw_p20 : lw_okq (⟨"java/lang/Throwable", "fillInStackTrace", "(I)Ljava/lang/Throwable;"⟩, 6) := ⟨⟨by decide +kernel, by decide +kernel⟩, List.mem_of_getElem? (i := 780) (by decide +kernel), List.mem_of_getElem? (i := 778) (by decide +kernel), List.mem_of_getElem? (i := 779) (by decide +kernel)⟩
theorem lw_p21 : lw_okq (⟨"SwitchDeskModel", "looks", "()V"⟩, 38) := ⟨⟨by decide +kernel, by decide +kernel⟩, List.mem_of_getElem? (i := 819) (by decide +kernel), List.mem_of_getElem? (i := 825) (by decide +kernel), List.mem_of_getElem? (i := 826) (by decide +kernel)⟩
theorem lw_p22 : lw_okq (⟨"SwitchDeskModel", "isNode", "(I)Z"⟩, 38) := ⟨⟨by decide +kernel, by decide +kernel⟩, List.mem_of_getElem? (i := 819) (by decide +kernel), List.mem_of_getElem? (i := 954) (by decide +kernel), List.mem_of_getElem? (i := 955) (by decide +kernel)⟩
theorem lw_p23 : lw_okq (⟨"SwitchDeskModel", "adds", "(III)I"⟩, 38) := ⟨⟨by decide +kernel, by decide +kernel⟩, List.mem_of_getElem? (i := 819) (by decide +kernel), List.mem_of_getElem? (i := 964) (by decide +kernel), List.mem_of_getElem? (i := 965) (by decide +kernel)⟩
theorem lw_p24 : lw_okq (⟨"SwitchDeskModel", "comes", "(I)V"⟩, 38) := ⟨⟨by decide +kernel, by decide +kernel⟩, List.mem_of_getElem? (i := 819) (by decide +kernel), List.mem_of_getElem? (i := 968) (by decide +kernel), List.mem_of_getElem? (i := 969) (by decide +kernel)⟩
theorem lw_p25 : lw_okq (⟨"SwitchDeskModel", "placeOf", "(I)I"⟩, 38) := ⟨⟨by decide +kernel, by decide +kernel⟩, List.mem_of_getElem? (i := 819) (by decide +kernel), List.mem_of_getElem? (i := 980) (by decide +kernel), List.mem_of_getElem? (i := 981) (by decide +kernel)⟩
theorem lw_p26 : lw_okq (⟨"SwitchDeskModel", "lights", "(I)I"⟩, 38) := ⟨⟨by decide +kernel, by decide +kernel⟩, List.mem_of_getElem? (i := 819) (by decide +kernel), List.mem_of_getElem? (i := 984) (by decide +kernel), List.mem_of_getElem? (i := 985) (by decide +kernel)⟩
theorem lw_p27 : lw_okq (⟨"SwitchDeskModel", "ticks", "()V"⟩, 38) := ⟨⟨by decide +kernel, by decide +kernel⟩, List.mem_of_getElem? (i := 819) (by decide +kernel), List.mem_of_getElem? (i := 997) (by decide +kernel), List.mem_of_getElem? (i := 998) (by decide +kernel)⟩
theorem lw_p28 : lw_okq (⟨"SwitchDeskModel", "light", "(II)I"⟩, 38) := ⟨⟨by decide +kernel, by decide +kernel⟩, List.mem_of_getElem? (i := 819) (by decide +kernel), List.mem_of_getElem? (i := 1001) (by decide +kernel), List.mem_of_getElem? (i := 1002) (by decide +kernel)⟩
theorem lw_p29 : lw_okq (⟨"SwitchDeskModel", "acts", "(I)V"⟩, 38) := ⟨⟨by decide +kernel, by decide +kernel⟩, List.mem_of_getElem? (i := 819) (by decide +kernel), List.mem_of_getElem? (i := 1009) (by decide +kernel), List.mem_of_getElem? (i := 1010) (by decide +kernel)⟩
theorem lw_p30 : lw_okq (⟨"SwitchDeskModel", "keep", "()V"⟩, 38) := ⟨⟨by decide +kernel, by decide +kernel⟩, List.mem_of_getElem? (i := 819) (by decide +kernel), List.mem_of_getElem? (i := 1013) (by decide +kernel), List.mem_of_getElem? (i := 1014) (by decide +kernel)⟩
theorem lw_p31 : lw_okq (⟨"SwitchDeskModel", "put", "(I)V"⟩, 38) := ⟨⟨by decide +kernel, by decide +kernel⟩, List.mem_of_getElem? (i := 819) (by decide +kernel), List.mem_of_getElem? (i := 1017) (by decide +kernel), List.mem_of_getElem? (i := 1018) (by decide +kernel)⟩
def lw_privs_2 : List (MethodName × Nat) := [(⟨"SwitchDesk$Plan", "costWith", "(III)I"⟩, 5), (⟨"SwitchDesk$Plan", "leastOf", "(II)I"⟩, 5), (⟨"SwitchDesk$Plan", "sumOf", "(II)I"⟩, 5), (⟨"SwitchDesk$Plan", "openAt", "(IILSwitchDesk$Tray;)I"⟩, 5), (⟨"java/lang/Throwable", "fillInStackTrace", "(I)Ljava/lang/Throwable;"⟩, 6), (⟨"SwitchDeskModel", "looks", "()V"⟩, 38), (⟨"SwitchDeskModel", "isNode", "(I)Z"⟩, 38), (⟨"SwitchDeskModel", "adds", "(III)I"⟩, 38), (⟨"SwitchDeskModel", "comes", "(I)V"⟩, 38), (⟨"SwitchDeskModel", "placeOf", "(I)I"⟩, 38), (⟨"SwitchDeskModel", "lights", "(I)I"⟩, 38), (⟨"SwitchDeskModel", "ticks", "()V"⟩, 38), (⟨"SwitchDeskModel", "light", "(II)I"⟩, 38), (⟨"SwitchDeskModel", "acts", "(I)V"⟩, 38), (⟨"SwitchDeskModel", "keep", "()V"⟩, 38), (⟨"SwitchDeskModel", "put", "(I)V"⟩, 38)]
theorem lw_r2 : ∀ q ∈ lw_privs_2, lw_okq q := List.forall_mem_cons.mpr ⟨lw_p16, List.forall_mem_cons.mpr ⟨lw_p17, List.forall_mem_cons.mpr ⟨lw_p18, List.forall_mem_cons.mpr ⟨lw_p19, List.forall_mem_cons.mpr ⟨lw_p20, List.forall_mem_cons.mpr ⟨lw_p21, List.forall_mem_cons.mpr ⟨lw_p22, List.forall_mem_cons.mpr ⟨lw_p23, List.forall_mem_cons.mpr ⟨lw_p24, List.forall_mem_cons.mpr ⟨lw_p25, List.forall_mem_cons.mpr ⟨lw_p26, List.forall_mem_cons.mpr ⟨lw_p27, List.forall_mem_cons.mpr ⟨lw_p28, List.forall_mem_cons.mpr ⟨lw_p29, List.forall_mem_cons.mpr ⟨lw_p30, List.forall_mem_cons.mpr ⟨lw_p31, fun _ h => absurd h List.not_mem_nil⟩⟩⟩⟩⟩⟩⟩⟩⟩⟩⟩⟩⟩⟩⟩⟩
theorem lw_p32 : lw_okq (⟨"SwitchDeskModel", "undo", "()V"⟩, 38) := ⟨⟨by decide +kernel, by decide +kernel⟩, List.mem_of_getElem? (i := 819) (by decide +kernel), List.mem_of_getElem? (i := 1021) (by decide +kernel), List.mem_of_getElem? (i := 1022) (by decide +kernel)⟩
theorem lw_p33 : lw_okq (⟨"SwitchDeskModel", "foreseenAt", "(I)I"⟩, 38) := ⟨⟨by decide +kernel, by decide +kernel⟩, List.mem_of_getElem? (i := 819) (by decide +kernel), List.mem_of_getElem? (i := 1025) (by decide +kernel), List.mem_of_getElem? (i := 1026) (by decide +kernel)⟩
theorem lw_p34 : lw_okq (⟨"SwitchDeskModel", "written", "()I"⟩, 38) := ⟨⟨by decide +kernel, by decide +kernel⟩, List.mem_of_getElem? (i := 819) (by decide +kernel), List.mem_of_getElem? (i := 1029) (by decide +kernel), List.mem_of_getElem? (i := 1030) (by decide +kernel)⟩
theorem lw_p35 : lw_okq (⟨"SwitchDeskModel", "ranked", "(I)I"⟩, 38) := ⟨⟨by decide +kernel, by decide +kernel⟩, List.mem_of_getElem? (i := 819) (by decide +kernel), List.mem_of_getElem? (i := 1033) (by decide +kernel), List.mem_of_getElem? (i := 1034) (by decide +kernel)⟩
theorem lw_p36 : lw_okq (⟨"SwitchDeskModel", "offeredAt", "(I)I"⟩, 38) := ⟨⟨by decide +kernel, by decide +kernel⟩, List.mem_of_getElem? (i := 819) (by decide +kernel), List.mem_of_getElem? (i := 1037) (by decide +kernel), List.mem_of_getElem? (i := 1038) (by decide +kernel)⟩
theorem lw_p37 : lw_okq (⟨"SwitchDeskModel", "areNear", "(II)Z"⟩, 38) := ⟨⟨by decide +kernel, by decide +kernel⟩, List.mem_of_getElem? (i := 819) (by decide +kernel), List.mem_of_getElem? (i := 1041) (by decide +kernel), List.mem_of_getElem? (i := 1042) (by decide +kernel)⟩
theorem lw_p38 : lw_okq (⟨"SwitchDeskModel", "isRow", "()Z"⟩, 38) := ⟨⟨by decide +kernel, by decide +kernel⟩, List.mem_of_getElem? (i := 819) (by decide +kernel), List.mem_of_getElem? (i := 1072) (by decide +kernel), List.mem_of_getElem? (i := 1073) (by decide +kernel)⟩
theorem lw_p39 : lw_okq (⟨"SwitchDeskModel", "isWord", "(I)Z"⟩, 38) := ⟨⟨by decide +kernel, by decide +kernel⟩, List.mem_of_getElem? (i := 819) (by decide +kernel), List.mem_of_getElem? (i := 1076) (by decide +kernel), List.mem_of_getElem? (i := 1077) (by decide +kernel)⟩
theorem lw_p40 : lw_okq (⟨"SwitchDeskModel", "hasKey", "(I)Z"⟩, 38) := ⟨⟨by decide +kernel, by decide +kernel⟩, List.mem_of_getElem? (i := 819) (by decide +kernel), List.mem_of_getElem? (i := 1104) (by decide +kernel), List.mem_of_getElem? (i := 1105) (by decide +kernel)⟩
theorem lw_p41 : lw_okq (⟨"SwitchDeskModel", "costOf", "(I)I"⟩, 38) := ⟨⟨by decide +kernel, by decide +kernel⟩, List.mem_of_getElem? (i := 819) (by decide +kernel), List.mem_of_getElem? (i := 1108) (by decide +kernel), List.mem_of_getElem? (i := 1109) (by decide +kernel)⟩
theorem lw_p42 : lw_okq (⟨"SwitchDeskModel", "sums", "(I)V"⟩, 38) := ⟨⟨by decide +kernel, by decide +kernel⟩, List.mem_of_getElem? (i := 819) (by decide +kernel), List.mem_of_getElem? (i := 1121) (by decide +kernel), List.mem_of_getElem? (i := 1122) (by decide +kernel)⟩
theorem lw_p43 : lw_okq (⟨"SwitchDeskModel", "item", "(III)J"⟩, 38) := ⟨⟨by decide +kernel, by decide +kernel⟩, List.mem_of_getElem? (i := 819) (by decide +kernel), List.mem_of_getElem? (i := 1126) (by decide +kernel), List.mem_of_getElem? (i := 1127) (by decide +kernel)⟩
theorem lw_p44 : lw_okq (⟨"SwitchDeskModel", "weight", "(II)J"⟩, 38) := ⟨⟨by decide +kernel, by decide +kernel⟩, List.mem_of_getElem? (i := 819) (by decide +kernel), List.mem_of_getElem? (i := 1130) (by decide +kernel), List.mem_of_getElem? (i := 1131) (by decide +kernel)⟩
theorem lw_p45 : lw_okq (⟨"SwitchDeskModel", "lays", "(IIIIZ)V"⟩, 38) := ⟨⟨by decide +kernel, by decide +kernel⟩, List.mem_of_getElem? (i := 819) (by decide +kernel), List.mem_of_getElem? (i := 1141) (by decide +kernel), List.mem_of_getElem? (i := 1142) (by decide +kernel)⟩
def lw_privs_3 : List (MethodName × Nat) := [(⟨"SwitchDeskModel", "undo", "()V"⟩, 38), (⟨"SwitchDeskModel", "foreseenAt", "(I)I"⟩, 38), (⟨"SwitchDeskModel", "written", "()I"⟩, 38), (⟨"SwitchDeskModel", "ranked", "(I)I"⟩, 38), (⟨"SwitchDeskModel", "offeredAt", "(I)I"⟩, 38), (⟨"SwitchDeskModel", "areNear", "(II)Z"⟩, 38), (⟨"SwitchDeskModel", "isRow", "()Z"⟩, 38), (⟨"SwitchDeskModel", "isWord", "(I)Z"⟩, 38), (⟨"SwitchDeskModel", "hasKey", "(I)Z"⟩, 38), (⟨"SwitchDeskModel", "costOf", "(I)I"⟩, 38), (⟨"SwitchDeskModel", "sums", "(I)V"⟩, 38), (⟨"SwitchDeskModel", "item", "(III)J"⟩, 38), (⟨"SwitchDeskModel", "weight", "(II)J"⟩, 38), (⟨"SwitchDeskModel", "lays", "(IIIIZ)V"⟩, 38)]
theorem lw_r3 : ∀ q ∈ lw_privs_3, lw_okq q := List.forall_mem_cons.mpr ⟨lw_p32, List.forall_mem_cons.mpr ⟨lw_p33, List.forall_mem_cons.mpr ⟨lw_p34, List.forall_mem_cons.mpr ⟨lw_p35, List.forall_mem_cons.mpr ⟨lw_p36, List.forall_mem_cons.mpr ⟨lw_p37, List.forall_mem_cons.mpr ⟨lw_p38, List.forall_mem_cons.mpr ⟨lw_p39, List.forall_mem_cons.mpr ⟨lw_p40, List.forall_mem_cons.mpr ⟨lw_p41, List.forall_mem_cons.mpr ⟨lw_p42, List.forall_mem_cons.mpr ⟨lw_p43, List.forall_mem_cons.mpr ⟨lw_p44, List.forall_mem_cons.mpr ⟨lw_p45, fun _ h => absurd h List.not_mem_nil⟩⟩⟩⟩⟩⟩⟩⟩⟩⟩⟩⟩⟩⟩
def lw_privs : List (MethodName × Nat) := lw_privs_1 ++ (lw_privs_2 ++ (lw_privs_3))
def lw_tbl : List Cond := k2_sels lw_privs ++ tables_1
theorem lw_privs_ok : ∀ q ∈ lw_privs, lw_okq q := by
  show ∀ q ∈ lw_privs_1 ++ (lw_privs_2 ++ (lw_privs_3)), lw_okq q
  exact List.forall_mem_append.mpr ⟨lw_r1, List.forall_mem_append.mpr ⟨lw_r2, lw_r3⟩⟩
def RX0 : String := "SwitchDesk$Book"
def TX0 : u_T := fun k => match k with
  | 0 => ("SwitchDesk$Book", "signs", "[I", true)
  | 1 => ("SwitchDesk$Book", "sizes", "[I", true)
  | 2 => ("SwitchDesk$Book", "counts", "[I", true)
  | _ => ("SwitchDesk$Book", "size", "I", false)
def tyX0 : Nat → FieldType := fun k => match k with
  | 0 => .array .int
  | 1 => .array .int
  | 2 => .array .int
  | _ => .int
abbrev wsX00 : List Cond := u_ws RX0 TX0 4
theorem nmX0 : ∀ a, a < 4 → ∀ b, b < 4 → a ≠ b → (TX0 a).2.1 ≠ (TX0 b).2.1 := by decide +kernel
theorem tyX0_ok : ∀ k, k < 4 → parseFieldDescriptor (TX0 k).2.2.1 = some (tyX0 k) := by decide +kernel
abbrev cX0_init : ByteArray := prog_2_method_1_code
def yX0_init : MethodName := ⟨RX0, "<init>", "()V"⟩
abbrev cX0_take : ByteArray := prog_2_method_2_code
def yX0_take : MethodName := ⟨RX0, "take", "(LSwitchDesk$Tape;I)I"⟩
abbrev cX0_add : ByteArray := prog_2_method_3_code
def yX0_add : MethodName := ⟨RX0, "add", "(LSwitchDesk$Tape;)I"⟩
abbrev cX0_find : ByteArray := prog_2_method_4_code
def yX0_find : MethodName := ⟨RX0, "find", "([II)I"⟩
abbrev cX0_beginsWith : ByteArray := prog_2_method_5_code
def yX0_beginsWith : MethodName := ⟨RX0, "beginsWith", "(I[II)Z"⟩
abbrev cX0_has : ByteArray := prog_2_method_6_code
def yX0_has : MethodName := ⟨RX0, "has", "(I)Z"⟩
abbrev cX0_size : ByteArray := prog_2_method_7_code
def yX0_size : MethodName := ⟨RX0, "size", "()I"⟩
abbrev cX0_sizeOf : ByteArray := prog_2_method_8_code
def yX0_sizeOf : MethodName := ⟨RX0, "sizeOf", "(I)I"⟩
abbrev cX0_timesOf : ByteArray := prog_2_method_9_code
def yX0_timesOf : MethodName := ⟨RX0, "timesOf", "(I)I"⟩
abbrev cX0_signOf : ByteArray := prog_2_method_10_code
def yX0_signOf : MethodName := ⟨RX0, "signOf", "(II)I"⟩
def RX1 : String := "SwitchDesk$Chain"
def TX1 : u_T := fun k => match k with
  | 0 => ("SwitchDesk$Chain", "before", "LSwitchDesk$Chain;", true)
  | 1 => ("SwitchDesk$Chain", "sign", "I", true)
  | _ => ("SwitchDesk$Chain", "size", "I", true)
def tyX1 : Nat → FieldType := fun k => match k with
  | 0 => .object "SwitchDesk$Chain"
  | 1 => .int
  | _ => .int
abbrev wsX10 : List Cond := u_ws RX1 TX1 3
theorem nmX1 : ∀ a, a < 3 → ∀ b, b < 3 → a ≠ b → (TX1 a).2.1 ≠ (TX1 b).2.1 := by decide +kernel
theorem tyX1_ok : ∀ k, k < 3 → parseFieldDescriptor (TX1 k).2.2.1 = some (tyX1 k) := by decide +kernel
abbrev cX1_init : ByteArray := prog_3_method_1_code
def yX1_init : MethodName := ⟨RX1, "<init>", "(LSwitchDesk$Chain;I)V"⟩
abbrev cX1_without : ByteArray := prog_3_method_2_code
def yX1_without : MethodName := ⟨RX1, "without", "(I)LSwitchDesk$Chain;"⟩
abbrev cX1_signAt : ByteArray := prog_3_method_3_code
def yX1_signAt : MethodName := ⟨RX1, "signAt", "(I)I"⟩
def RX2 : String := "SwitchDesk$Finder"
def TX2 : u_T := fun k => match k with
  | 0 => ("SwitchDesk$Finder", "book", "LSwitchDesk$Book;", true)
  | 1 => ("SwitchDesk$Finder", "tray", "LSwitchDesk$Tray;", true)
  | 2 => ("SwitchDesk$Finder", "sheet", "LSwitchDesk$Sheet;", true)
  | 3 => ("SwitchDesk$Finder", "written", "[I", true)
  | 4 => ("SwitchDesk$Finder", "words", "[I", true)
  | 5 => ("SwitchDesk$Finder", "slips", "[I", true)
  | _ => ("SwitchDesk$Finder", "found", "I", false)
def tyX2 : Nat → FieldType := fun k => match k with
  | 0 => .object "SwitchDesk$Book"
  | 1 => .object "SwitchDesk$Tray"
  | 2 => .object "SwitchDesk$Sheet"
  | 3 => .array .int
  | 4 => .array .int
  | 5 => .array .int
  | _ => .int
abbrev wsX20 : List Cond := u_ws RX2 TX2 7
theorem nmX2 : ∀ a, a < 7 → ∀ b, b < 7 → a ≠ b → (TX2 a).2.1 ≠ (TX2 b).2.1 := by decide +kernel
theorem tyX2_ok : ∀ k, k < 7 → parseFieldDescriptor (TX2 k).2.2.1 = some (tyX2 k) := by decide +kernel
abbrev cX2_init : ByteArray := prog_4_method_1_code
def yX2_init : MethodName := ⟨RX2, "<init>", "(LSwitchDesk$Book;LSwitchDesk$Tray;LSwitchDesk$Sheet;)V"⟩
abbrev cX2_seekForeseen : ByteArray := prog_4_method_2_code
def yX2_seekForeseen : MethodName := ⟨RX2, "seekForeseen", "()V"⟩
abbrev cX2_seekOffered : ByteArray := prog_4_method_3_code
def yX2_seekOffered : MethodName := ⟨RX2, "seekOffered", "()V"⟩
abbrev cX2_readWritten : ByteArray := prog_4_method_4_code
def yX2_readWritten : MethodName := ⟨RX2, "readWritten", "()I"⟩
abbrev cX2_slipsOf : ByteArray := prog_4_method_5_code
def yX2_slipsOf : MethodName := ⟨RX2, "slipsOf", "(II)I"⟩
abbrev cX2_enlist : ByteArray := prog_4_method_6_code
def yX2_enlist : MethodName := ⟨RX2, "enlist", "(II)V"⟩
abbrev cX2_isBetter : ByteArray := prog_4_method_7_code
def yX2_isBetter : MethodName := ⟨RX2, "isBetter", "(III)Z"⟩
abbrev cX2_found : ByteArray := prog_4_method_8_code
def yX2_found : MethodName := ⟨RX2, "found", "()I"⟩
abbrev cX2_foundAt : ByteArray := prog_4_method_9_code
def yX2_foundAt : MethodName := ⟨RX2, "foundAt", "(I)I"⟩
def RX3 : String := "SwitchDesk$Lamp"
def TX3 : u_T := fun k => match k with
  | 0 => ("SwitchDesk$Lamp", "tray", "LSwitchDesk$Tray;", true)
  | 1 => ("SwitchDesk$Lamp", "numbers", "LSwitchDesk$Numbers;", true)
  | 2 => ("SwitchDesk$Lamp", "now", "I", false)
  | 3 => ("SwitchDesk$Lamp", "group", "I", false)
  | 4 => ("SwitchDesk$Lamp", "lit", "I", false)
  | 5 => ("SwitchDesk$Lamp", "before", "I", false)
  | 6 => ("SwitchDesk$Lamp", "changed", "I", false)
  | 7 => ("SwitchDesk$Lamp", "rounds", "I", false)
  | 8 => ("SwitchDesk$Lamp", "presses", "I", false)
  | _ => ("SwitchDesk$Lamp", "lastPress", "I", false)
def tyX3 : Nat → FieldType := fun k => match k with
  | 0 => .object "SwitchDesk$Tray"
  | 1 => .object "SwitchDesk$Numbers"
  | 2 => .int
  | 3 => .int
  | 4 => .int
  | 5 => .int
  | 6 => .int
  | 7 => .int
  | 8 => .int
  | _ => .int
abbrev wsX30 : List Cond := u_ws RX3 TX3 10
theorem nmX3 : ∀ a, a < 10 → ∀ b, b < 10 → a ≠ b → (TX3 a).2.1 ≠ (TX3 b).2.1 := by decide +kernel
theorem tyX3_ok : ∀ k, k < 10 → parseFieldDescriptor (TX3 k).2.2.1 = some (tyX3 k) := by decide +kernel
abbrev cX3_init : ByteArray := prog_5_method_1_code
def yX3_init : MethodName := ⟨RX3, "<init>", "(LSwitchDesk$Tray;LSwitchDesk$Numbers;)V"⟩
abbrev cX3_comeTo : ByteArray := prog_5_method_2_code
def yX3_comeTo : MethodName := ⟨RX3, "comeTo", "(I)V"⟩
abbrev cX3_pass : ByteArray := prog_5_method_3_code
def yX3_pass : MethodName := ⟨RX3, "pass", "(I)I"⟩
abbrev cX3_change : ByteArray := prog_5_method_4_code
def yX3_change : MethodName := ⟨RX3, "change", "()V"⟩
abbrev cX3_take : ByteArray := prog_5_method_5_code
def yX3_take : MethodName := ⟨RX3, "take", "()I"⟩
abbrev cX3_tell : ByteArray := prog_5_method_6_code
def yX3_tell : MethodName := ⟨RX3, "tell", "(I)I"⟩
def RX4 : String := "SwitchDesk$Numbers"
def TX4 : u_T := fun k => match k with
  | _ => ("SwitchDesk$Numbers", "values", "[I", true)
def tyX4 : Nat → FieldType := fun k => match k with
  | _ => .array .int
abbrev wsX40 : List Cond := u_ws RX4 TX4 1
theorem nmX4 : ∀ a, a < 1 → ∀ b, b < 1 → a ≠ b → (TX4 a).2.1 ≠ (TX4 b).2.1 := by decide +kernel
theorem tyX4_ok : ∀ k, k < 1 → parseFieldDescriptor (TX4 k).2.2.1 = some (tyX4 k) := by decide +kernel
abbrev cX4_init : ByteArray := prog_6_method_1_code
def yX4_init : MethodName := ⟨RX4, "<init>", "()V"⟩
abbrev cX4_change : ByteArray := prog_6_method_2_code
def yX4_change : MethodName := ⟨RX4, "change", "(II)Z"⟩
abbrev cX4_get : ByteArray := prog_6_method_3_code
def yX4_get : MethodName := ⟨RX4, "get", "(I)I"⟩
def RX5 : String := "SwitchDesk$Plan"
def TX5 : u_T := fun k => match k with
  | 0 => ("SwitchDesk$Plan", "tape", "LSwitchDesk$Tape;", true)
  | 1 => ("SwitchDesk$Plan", "numbers", "LSwitchDesk$Numbers;", true)
  | 2 => ("SwitchDesk$Plan", "sums", "[I", true)
  | 3 => ("SwitchDesk$Plan", "leasts", "[I", true)
  | _ => ("SwitchDesk$Plan", "ends", "[I", true)
def tyX5 : Nat → FieldType := fun k => match k with
  | 0 => .object "SwitchDesk$Tape"
  | 1 => .object "SwitchDesk$Numbers"
  | 2 => .array .int
  | 3 => .array .int
  | _ => .array .int
abbrev wsX50 : List Cond := u_ws RX5 TX5 5
theorem nmX5 : ∀ a, a < 5 → ∀ b, b < 5 → a ≠ b → (TX5 a).2.1 ≠ (TX5 b).2.1 := by decide +kernel
theorem tyX5_ok : ∀ k, k < 5 → parseFieldDescriptor (TX5 k).2.2.1 = some (tyX5 k) := by decide +kernel
abbrev cX5_init : ByteArray := prog_7_method_1_code
def yX5_init : MethodName := ⟨RX5, "<init>", "(LSwitchDesk$Tape;LSwitchDesk$Numbers;)V"⟩
abbrev cX5_solve : ByteArray := prog_7_method_2_code
def yX5_solve : MethodName := ⟨RX5, "solve", "(LSwitchDesk$Shares;)I"⟩
abbrev cX5_firstEnd : ByteArray := prog_7_method_3_code
def yX5_firstEnd : MethodName := ⟨RX5, "firstEnd", "(II)I"⟩
abbrev cX5_costWith : ByteArray := prog_7_method_4_code
def yX5_costWith : MethodName := ⟨RX5, "costWith", "(III)I"⟩
abbrev cX5_sumOf : ByteArray := prog_7_method_5_code
def yX5_sumOf : MethodName := ⟨RX5, "sumOf", "(II)I"⟩
abbrev cX5_leastOf : ByteArray := prog_7_method_6_code
def yX5_leastOf : MethodName := ⟨RX5, "leastOf", "(II)I"⟩
abbrev cX5_isPart : ByteArray := prog_7_method_7_code
def yX5_isPart : MethodName := ⟨RX5, "isPart", "(II)Z"⟩
abbrev cX5_build : ByteArray := prog_7_method_8_code
def yX5_build : MethodName := ⟨RX5, "build", "(LSwitchDesk$Tray;)V"⟩
abbrev cX5_openAt : ByteArray := prog_7_method_9_code
def yX5_openAt : MethodName := ⟨RX5, "openAt", "(IILSwitchDesk$Tray;)I"⟩
def RX6 : String := "SwitchDesk$Shares"
def TX6 : u_T := fun k => match k with
  | 0 => ("SwitchDesk$Shares", "tray", "LSwitchDesk$Tray;", true)
  | 1 => ("SwitchDesk$Shares", "numbers", "LSwitchDesk$Numbers;", true)
  | 2 => ("SwitchDesk$Shares", "shares", "[I", true)
  | _ => ("SwitchDesk$Shares", "leasts", "[I", true)
def tyX6 : Nat → FieldType := fun k => match k with
  | 0 => .object "SwitchDesk$Tray"
  | 1 => .object "SwitchDesk$Numbers"
  | 2 => .array .int
  | _ => .array .int
abbrev wsX60 : List Cond := u_ws RX6 TX6 4
theorem nmX6 : ∀ a, a < 4 → ∀ b, b < 4 → a ≠ b → (TX6 a).2.1 ≠ (TX6 b).2.1 := by decide +kernel
theorem tyX6_ok : ∀ k, k < 4 → parseFieldDescriptor (TX6 k).2.2.1 = some (tyX6 k) := by decide +kernel
abbrev cX6_init : ByteArray := prog_8_method_1_code
def yX6_init : MethodName := ⟨RX6, "<init>", "(LSwitchDesk$Tray;LSwitchDesk$Numbers;)V"⟩
abbrev cX6_change : ByteArray := prog_8_method_2_code
def yX6_change : MethodName := ⟨RX6, "change", "(II)Z"⟩
abbrev cX6_shareOf : ByteArray := prog_8_method_3_code
def yX6_shareOf : MethodName := ⟨RX6, "shareOf", "(I)I"⟩
abbrev cX6_costOf : ByteArray := prog_8_method_4_code
def yX6_costOf : MethodName := ⟨RX6, "costOf", "(I)I"⟩
abbrev cX6_meanPart : ByteArray := prog_8_method_5_code
def yX6_meanPart : MethodName := ⟨RX6, "meanPart", "(I)J"⟩
abbrev cX6_findLeasts : ByteArray := prog_8_method_6_code
def yX6_findLeasts : MethodName := ⟨RX6, "findLeasts", "()V"⟩
abbrev cX6_commonDivisor : ByteArray := prog_8_method_7_code
def yX6_commonDivisor : MethodName := ⟨RX6, "commonDivisor", "(JJ)J"⟩
def RX7 : String := "SwitchDesk$Sheet"
def TX7 : u_T := fun k => match k with
  | 0 => ("SwitchDesk$Sheet", "empty", "LSwitchDesk$Chain;", true)
  | 1 => ("SwitchDesk$Sheet", "oldTexts", "[LSwitchDesk$Chain;", true)
  | 2 => ("SwitchDesk$Sheet", "oldSaids", "[LSwitchDesk$Chain;", true)
  | 3 => ("SwitchDesk$Sheet", "oldest", "I", false)
  | 4 => ("SwitchDesk$Sheet", "kept", "I", false)
  | 5 => ("SwitchDesk$Sheet", "text", "LSwitchDesk$Chain;", false)
  | _ => ("SwitchDesk$Sheet", "said", "LSwitchDesk$Chain;", false)
def tyX7 : Nat → FieldType := fun k => match k with
  | 0 => .object "SwitchDesk$Chain"
  | 1 => .array (.object "SwitchDesk$Chain")
  | 2 => .array (.object "SwitchDesk$Chain")
  | 3 => .int
  | 4 => .int
  | 5 => .object "SwitchDesk$Chain"
  | _ => .object "SwitchDesk$Chain"
abbrev wsX70 : List Cond := u_ws RX7 TX7 7
theorem nmX7 : ∀ a, a < 7 → ∀ b, b < 7 → a ≠ b → (TX7 a).2.1 ≠ (TX7 b).2.1 := by decide +kernel
theorem tyX7_ok : ∀ k, k < 7 → parseFieldDescriptor (TX7 k).2.2.1 = some (tyX7 k) := by decide +kernel
abbrev cX7_init : ByteArray := prog_9_method_1_code
def yX7_init : MethodName := ⟨RX7, "<init>", "()V"⟩
abbrev cX7_part : ByteArray := prog_9_method_2_code
def yX7_part : MethodName := ⟨RX7, "part", "(I)LSwitchDesk$Chain;"⟩
abbrev cX7_undoable : ByteArray := prog_9_method_3_code
def yX7_undoable : MethodName := ⟨RX7, "undoable", "()I"⟩
abbrev cX7_written : ByteArray := prog_9_method_4_code
def yX7_written : MethodName := ⟨RX7, "written", "()I"⟩
abbrev cX7_copyLast : ByteArray := prog_9_method_5_code
def yX7_copyLast : MethodName := ⟨RX7, "copyLast", "(I[I)V"⟩
abbrev cX7_write : ByteArray := prog_9_method_6_code
def yX7_write : MethodName := ⟨RX7, "write", "(I)V"⟩
abbrev cX7_dropLast : ByteArray := prog_9_method_7_code
def yX7_dropLast : MethodName := ⟨RX7, "dropLast", "()V"⟩
abbrev cX7_speak : ByteArray := prog_9_method_8_code
def yX7_speak : MethodName := ⟨RX7, "speak", "()V"⟩
abbrev cX7_complete : ByteArray := prog_9_method_9_code
def yX7_complete : MethodName := ⟨RX7, "complete", "(LSwitchDesk$Book;IZ)V"⟩
abbrev cX7_takeBack : ByteArray := prog_9_method_10_code
def yX7_takeBack : MethodName := ⟨RX7, "takeBack", "()V"⟩
abbrev cX7_keep : ByteArray := prog_9_method_11_code
def yX7_keep : MethodName := ⟨RX7, "keep", "()V"⟩
def RX8 : String := "SwitchDesk$Tape"
def TX8 : u_T := fun k => match k with
  | 0 => ("SwitchDesk$Tape", "signs", "[I", true)
  | _ => ("SwitchDesk$Tape", "size", "I", false)
def tyX8 : Nat → FieldType := fun k => match k with
  | 0 => .array .int
  | _ => .int
abbrev wsX80 : List Cond := u_ws RX8 TX8 2
theorem nmX8 : ∀ a, a < 2 → ∀ b, b < 2 → a ≠ b → (TX8 a).2.1 ≠ (TX8 b).2.1 := by decide +kernel
theorem tyX8_ok : ∀ k, k < 2 → parseFieldDescriptor (TX8 k).2.2.1 = some (tyX8 k) := by decide +kernel
abbrev cX8_init : ByteArray := prog_10_method_1_code
def yX8_init : MethodName := ⟨RX8, "<init>", "()V"⟩
abbrev cX8_take : ByteArray := prog_10_method_2_code
def yX8_take : MethodName := ⟨RX8, "take", "(II)I"⟩
abbrev cX8_fedByte : ByteArray := prog_10_method_3_code
def yX8_fedByte : MethodName := ⟨RX8, "fedByte", "(III)I"⟩
abbrev cX8_cut : ByteArray := prog_10_method_4_code
def yX8_cut : MethodName := ⟨RX8, "cut", "(I)Z"⟩
abbrev cX8_size : ByteArray := prog_10_method_5_code
def yX8_size : MethodName := ⟨RX8, "size", "()I"⟩
abbrev cX8_signAt : ByteArray := prog_10_method_6_code
def yX8_signAt : MethodName := ⟨RX8, "signAt", "(I)I"⟩
abbrev cX8_isWord : ByteArray := prog_10_method_7_code
def yX8_isWord : MethodName := ⟨RX8, "isWord", "()Z"⟩
abbrev cX8_isRow : ByteArray := prog_10_method_8_code
def yX8_isRow : MethodName := ⟨RX8, "isRow", "()Z"⟩
abbrev cX8_lettersAlone : ByteArray := prog_10_method_9_code
def yX8_lettersAlone : MethodName := ⟨RX8, "lettersAlone", "()Z"⟩
def RX9 : String := "SwitchDesk$Tray"
def TX9 : u_T := fun k => match k with
  | 0 => ("SwitchDesk$Tray", "kinds", "[I", true)
  | 1 => ("SwitchDesk$Tray", "values", "[I", true)
  | 2 => ("SwitchDesk$Tray", "groups", "[I", true)
  | 3 => ("SwitchDesk$Tray", "places", "[I", true)
  | 4 => ("SwitchDesk$Tray", "lights", "[I", true)
  | 5 => ("SwitchDesk$Tray", "firsts", "[I", true)
  | 6 => ("SwitchDesk$Tray", "lasts", "[I", true)
  | 7 => ("SwitchDesk$Tray", "nexts", "[I", true)
  | 8 => ("SwitchDesk$Tray", "lighted", "[Z", true)
  | 9 => ("SwitchDesk$Tray", "neighbours", "[I", true)
  | _ => ("SwitchDesk$Tray", "size", "I", false)
def tyX9 : Nat → FieldType := fun k => match k with
  | 0 => .array .int
  | 1 => .array .int
  | 2 => .array .int
  | 3 => .array .int
  | 4 => .array .int
  | 5 => .array .int
  | 6 => .array .int
  | 7 => .array .int
  | 8 => .array .boolean
  | 9 => .array .int
  | _ => .int
abbrev wsX90 : List Cond := u_ws RX9 TX9 11
theorem nmX9 : ∀ a, a < 11 → ∀ b, b < 11 → a ≠ b → (TX9 a).2.1 ≠ (TX9 b).2.1 := by decide +kernel
theorem tyX9_ok : ∀ k, k < 11 → parseFieldDescriptor (TX9 k).2.2.1 = some (tyX9 k) := by decide +kernel
abbrev cX9_init : ByteArray := prog_11_method_1_code
def yX9_init : MethodName := ⟨RX9, "<init>", "()V"⟩
abbrev cX9_empty : ByteArray := prog_11_method_2_code
def yX9_empty : MethodName := ⟨RX9, "empty", "()V"⟩
abbrev cX9_add : ByteArray := prog_11_method_3_code
def yX9_add : MethodName := ⟨RX9, "add", "(III)I"⟩
abbrev cX9_takes : ByteArray := prog_11_method_4_code
def yX9_takes : MethodName := ⟨RX9, "takes", "(II)Z"⟩
abbrev cX9_hasValue : ByteArray := prog_11_method_5_code
def yX9_hasValue : MethodName := ⟨RX9, "hasValue", "(I)Z"⟩
abbrev cX9_findLights : ByteArray := prog_11_method_6_code
def yX9_findLights : MethodName := ⟨RX9, "findLights", "()V"⟩
abbrev cX9_findLighted : ByteArray := prog_11_method_7_code
def yX9_findLighted : MethodName := ⟨RX9, "findLighted", "()V"⟩
abbrev cX9_standBehind : ByteArray := prog_11_method_8_code
def yX9_standBehind : MethodName := ⟨RX9, "standBehind", "(II)V"⟩
abbrev cX9_join : ByteArray := prog_11_method_9_code
def yX9_join : MethodName := ⟨RX9, "join", "(II)V"⟩
abbrev cX9_has : ByteArray := prog_11_method_10_code
def yX9_has : MethodName := ⟨RX9, "has", "(I)Z"⟩
abbrev cX9_size : ByteArray := prog_11_method_11_code
def yX9_size : MethodName := ⟨RX9, "size", "()I"⟩
abbrev cX9_kindOf : ByteArray := prog_11_method_12_code
def yX9_kindOf : MethodName := ⟨RX9, "kindOf", "(I)I"⟩
abbrev cX9_valueOf : ByteArray := prog_11_method_13_code
def yX9_valueOf : MethodName := ⟨RX9, "valueOf", "(I)I"⟩
abbrev cX9_groupOf : ByteArray := prog_11_method_14_code
def yX9_groupOf : MethodName := ⟨RX9, "groupOf", "(I)I"⟩
abbrev cX9_placeOf : ByteArray := prog_11_method_15_code
def yX9_placeOf : MethodName := ⟨RX9, "placeOf", "(I)I"⟩
abbrev cX9_lightsOf : ByteArray := prog_11_method_16_code
def yX9_lightsOf : MethodName := ⟨RX9, "lightsOf", "(I)I"⟩
abbrev cX9_firstIn : ByteArray := prog_11_method_17_code
def yX9_firstIn : MethodName := ⟨RX9, "firstIn", "(I)I"⟩
abbrev cX9_behind : ByteArray := prog_11_method_18_code
def yX9_behind : MethodName := ⟨RX9, "behind", "(I)I"⟩
abbrev cX9_areNeighbours : ByteArray := prog_11_method_19_code
def yX9_areNeighbours : MethodName := ⟨RX9, "areNeighbours", "(II)Z"⟩
def RX10 : String := "SwitchDesk"
def TX10 : u_T := fun k => match k with
  | 0 => ("SwitchDesk", "numbers", "LSwitchDesk$Numbers;", true)
  | 1 => ("SwitchDesk", "tray", "LSwitchDesk$Tray;", true)
  | 2 => ("SwitchDesk", "lamp", "LSwitchDesk$Lamp;", true)
  | 3 => ("SwitchDesk", "sheet", "LSwitchDesk$Sheet;", true)
  | 4 => ("SwitchDesk", "tape", "LSwitchDesk$Tape;", true)
  | 5 => ("SwitchDesk", "book", "LSwitchDesk$Book;", true)
  | 6 => ("SwitchDesk", "finder", "LSwitchDesk$Finder;", true)
  | 7 => ("SwitchDesk", "shares", "LSwitchDesk$Shares;", true)
  | _ => ("SwitchDesk", "plan", "LSwitchDesk$Plan;", true)
def tyX10 : Nat → FieldType := fun k => match k with
  | 0 => .object "SwitchDesk$Numbers"
  | 1 => .object "SwitchDesk$Tray"
  | 2 => .object "SwitchDesk$Lamp"
  | 3 => .object "SwitchDesk$Sheet"
  | 4 => .object "SwitchDesk$Tape"
  | 5 => .object "SwitchDesk$Book"
  | 6 => .object "SwitchDesk$Finder"
  | 7 => .object "SwitchDesk$Shares"
  | _ => .object "SwitchDesk$Plan"
abbrev wsX100 : List Cond := u_ws RX10 TX10 9
theorem nmX10 : ∀ a, a < 9 → ∀ b, b < 9 → a ≠ b → (TX10 a).2.1 ≠ (TX10 b).2.1 := by decide +kernel
theorem tyX10_ok : ∀ k, k < 9 → parseFieldDescriptor (TX10 k).2.2.1 = some (tyX10 k) := by decide +kernel
abbrev cX10_init : ByteArray := prog_1_method_1_code
def yX10_init : MethodName := ⟨RX10, "<init>", "()V"⟩
abbrev cX10_node : ByteArray := prog_1_method_2_code
def yX10_node : MethodName := ⟨RX10, "node", "(III)I"⟩
abbrev cX10_clear : ByteArray := prog_1_method_3_code
def yX10_clear : MethodName := ⟨RX10, "clear", "()V"⟩
abbrev cX10_told : ByteArray := prog_1_method_4_code
def yX10_told : MethodName := ⟨RX10, "told", "(II)I"⟩
abbrev cX10_set : ByteArray := prog_1_method_5_code
def yX10_set : MethodName := ⟨RX10, "set", "(II)Z"⟩
abbrev cX10_tick : ByteArray := prog_1_method_6_code
def yX10_tick : MethodName := ⟨RX10, "tick", "(I)I"⟩
abbrev cX10_press : ByteArray := prog_1_method_7_code
def yX10_press : MethodName := ⟨RX10, "press", "()I"⟩
abbrev cX10_state : ByteArray := prog_1_method_8_code
def yX10_state : MethodName := ⟨RX10, "state", "(I)I"⟩
abbrev cX10_length : ByteArray := prog_1_method_9_code
def yX10_length : MethodName := ⟨RX10, "length", "(I)I"⟩
abbrev cX10_at : ByteArray := prog_1_method_10_code
def yX10_at : MethodName := ⟨RX10, "at", "(II)I"⟩
abbrev cX10_feed : ByteArray := prog_1_method_11_code
def yX10_feed : MethodName := ⟨RX10, "feed", "(II)I"⟩
abbrev cX10_end : ByteArray := prog_1_method_12_code
def yX10_end : MethodName := ⟨RX10, "end", "(I)Z"⟩
abbrev cX10_word : ByteArray := prog_1_method_13_code
def yX10_word : MethodName := ⟨RX10, "word", "(I)I"⟩
abbrev cX10_letter : ByteArray := prog_1_method_14_code
def yX10_letter : MethodName := ⟨RX10, "letter", "(II)I"⟩
abbrev cX10_foreseen : ByteArray := prog_1_method_15_code
def yX10_foreseen : MethodName := ⟨RX10, "foreseen", "(I)I"⟩
abbrev cX10_offered : ByteArray := prog_1_method_16_code
def yX10_offered : MethodName := ⟨RX10, "offered", "(I)I"⟩
abbrev cX10_near : ByteArray := prog_1_method_17_code
def yX10_near : MethodName := ⟨RX10, "near", "(II)I"⟩
abbrev cX10_share : ByteArray := prog_1_method_18_code
def yX10_share : MethodName := ⟨RX10, "share", "(II)Z"⟩
abbrev cX10_cost : ByteArray := prog_1_method_19_code
def yX10_cost : MethodName := ⟨RX10, "cost", "(I)I"⟩
abbrev cX10_mean : ByteArray := prog_1_method_20_code
def yX10_mean : MethodName := ⟨RX10, "mean", "(I)J"⟩
abbrev cX10_lay : ByteArray := prog_1_method_21_code
def yX10_lay : MethodName := ⟨RX10, "lay", "()I"⟩
abbrev cX10_count : ByteArray := prog_1_method_22_code
def yX10_count : MethodName := ⟨RX10, "count", "(I)I"⟩
abbrev cX10_showTrayAnew : ByteArray := prog_1_method_23_code
def yX10_showTrayAnew : MethodName := ⟨RX10, "showTrayAnew", "()V"⟩
abbrev cX10_act : ByteArray := prog_1_method_24_code
def yX10_act : MethodName := ⟨RX10, "act", "(I)V"⟩
abbrev cX10_isLetter : ByteArray := prog_1_method_25_code
def yX10_isLetter : MethodName := ⟨RX10, "isLetter", "(I)Z"⟩
abbrev cX10_within : ByteArray := prog_1_method_26_code
def yX10_within : MethodName := ⟨RX10, "within", "(III)Z"⟩
def RX11 : String := "SwitchDeskModel"
def TX11 : u_T := fun k => match k with
  | 0 => ("SwitchDeskModel", "thrown", "I", false)
  | 1 => ("SwitchDeskModel", "kind", "[I", true)
  | 2 => ("SwitchDeskModel", "value", "[I", true)
  | 3 => ("SwitchDeskModel", "in", "[I", true)
  | 4 => ("SwitchDeskModel", "number", "[I", true)
  | 5 => ("SwitchDeskModel", "nodes", "I", false)
  | 6 => ("SwitchDeskModel", "keyed", "[Z", true)
  | 7 => ("SwitchDeskModel", "lightRow", "[I", true)
  | 8 => ("SwitchDeskModel", "lightMany", "[I", true)
  | 9 => ("SwitchDeskModel", "place", "[I", true)
  | 10 => ("SwitchDeskModel", "now", "I", false)
  | 11 => ("SwitchDeskModel", "at", "I", false)
  | 12 => ("SwitchDeskModel", "lit", "I", false)
  | 13 => ("SwitchDeskModel", "before", "I", false)
  | 14 => ("SwitchDeskModel", "changed", "I", false)
  | 15 => ("SwitchDeskModel", "rounds", "I", false)
  | 16 => ("SwitchDeskModel", "presses", "I", false)
  | 17 => ("SwitchDeskModel", "lastPress", "I", false)
  | 18 => ("SwitchDeskModel", "text", "[B", true)
  | 19 => ("SwitchDeskModel", "said", "[B", true)
  | 20 => ("SwitchDeskModel", "keptText", "[B", true)
  | 21 => ("SwitchDeskModel", "keptSaid", "[B", true)
  | 22 => ("SwitchDeskModel", "keptTextLong", "[I", true)
  | 23 => ("SwitchDeskModel", "keptSaidLong", "[I", true)
  | 24 => ("SwitchDeskModel", "textLong", "I", false)
  | 25 => ("SwitchDeskModel", "saidLong", "I", false)
  | 26 => ("SwitchDeskModel", "kept", "I", false)
  | 27 => ("SwitchDeskModel", "tape", "[B", true)
  | 28 => ("SwitchDeskModel", "word", "[B", true)
  | 29 => ("SwitchDeskModel", "wordLong", "[I", true)
  | 30 => ("SwitchDeskModel", "count", "[I", true)
  | 31 => ("SwitchDeskModel", "tapeLong", "I", false)
  | 32 => ("SwitchDeskModel", "words", "I", false)
  | 33 => ("SwitchDeskModel", "mark", "[I", true)
  | 34 => ("SwitchDeskModel", "share", "[I", true)
  | 35 => ("SwitchDeskModel", "rest", "[J", true)
  | 36 => ("SwitchDeskModel", "inside", "[J", true)
  | _ => ("SwitchDeskModel", "row", "[B", true)
def tyX11 : Nat → FieldType := fun k => match k with
  | 0 => .int
  | 1 => .array .int
  | 2 => .array .int
  | 3 => .array .int
  | 4 => .array .int
  | 5 => .int
  | 6 => .array .boolean
  | 7 => .array .int
  | 8 => .array .int
  | 9 => .array .int
  | 10 => .int
  | 11 => .int
  | 12 => .int
  | 13 => .int
  | 14 => .int
  | 15 => .int
  | 16 => .int
  | 17 => .int
  | 18 => .array .byte
  | 19 => .array .byte
  | 20 => .array .byte
  | 21 => .array .byte
  | 22 => .array .int
  | 23 => .array .int
  | 24 => .int
  | 25 => .int
  | 26 => .int
  | 27 => .array .byte
  | 28 => .array .byte
  | 29 => .array .int
  | 30 => .array .int
  | 31 => .int
  | 32 => .int
  | 33 => .array .int
  | 34 => .array .int
  | 35 => .array .long
  | 36 => .array .long
  | _ => .array .byte
abbrev wsX110 : List Cond := u_ws RX11 TX11 38
theorem nmX11 : ∀ a, a < 38 → ∀ b, b < 38 → a ≠ b → (TX11 a).2.1 ≠ (TX11 b).2.1 := by decide +kernel
theorem tyX11_ok : ∀ k, k < 38 → parseFieldDescriptor (TX11 k).2.2.1 = some (tyX11 k) := by decide +kernel
abbrev cX11_init : ByteArray := prog_13_method_1_code
def yX11_init : MethodName := ⟨RX11, "<init>", "()V"⟩
abbrev cX11_thrown : ByteArray := prog_13_method_2_code
def yX11_thrown : MethodName := ⟨RX11, "thrown", "()I"⟩
abbrev cX11_isIn : ByteArray := prog_13_method_3_code
def yX11_isIn : MethodName := ⟨RX11, "isIn", "(III)Z"⟩
abbrev cX11_isNode : ByteArray := prog_13_method_4_code
def yX11_isNode : MethodName := ⟨RX11, "isNode", "(I)Z"⟩
abbrev cX11_isSmall : ByteArray := prog_13_method_5_code
def yX11_isSmall : MethodName := ⟨RX11, "isSmall", "(I)Z"⟩
abbrev cX11_looks : ByteArray := prog_13_method_6_code
def yX11_looks : MethodName := ⟨RX11, "looks", "()V"⟩
abbrev cX11_hasKey : ByteArray := prog_13_method_7_code
def yX11_hasKey : MethodName := ⟨RX11, "hasKey", "(I)Z"⟩
abbrev cX11_light : ByteArray := prog_13_method_8_code
def yX11_light : MethodName := ⟨RX11, "light", "(II)I"⟩
abbrev cX11_lights : ByteArray := prog_13_method_9_code
def yX11_lights : MethodName := ⟨RX11, "lights", "(I)I"⟩
abbrev cX11_placeOf : ByteArray := prog_13_method_10_code
def yX11_placeOf : MethodName := ⟨RX11, "placeOf", "(I)I"⟩
abbrev cX11_comes : ByteArray := prog_13_method_11_code
def yX11_comes : MethodName := ⟨RX11, "comes", "(I)V"⟩
abbrev cX11_node : ByteArray := prog_13_method_12_code
def yX11_node : MethodName := ⟨RX11, "node", "(III)I"⟩
abbrev cX11_adds : ByteArray := prog_13_method_13_code
def yX11_adds : MethodName := ⟨RX11, "adds", "(III)I"⟩
abbrev cX11_clear : ByteArray := prog_13_method_14_code
def yX11_clear : MethodName := ⟨RX11, "clear", "()V"⟩
abbrev cX11_told : ByteArray := prog_13_method_15_code
def yX11_told : MethodName := ⟨RX11, "told", "(II)I"⟩
abbrev cX11_set : ByteArray := prog_13_method_16_code
def yX11_set : MethodName := ⟨RX11, "set", "(II)Z"⟩
abbrev cX11_tick : ByteArray := prog_13_method_17_code
def yX11_tick : MethodName := ⟨RX11, "tick", "(I)I"⟩
abbrev cX11_ticks : ByteArray := prog_13_method_18_code
def yX11_ticks : MethodName := ⟨RX11, "ticks", "()V"⟩
abbrev cX11_press : ByteArray := prog_13_method_19_code
def yX11_press : MethodName := ⟨RX11, "press", "()I"⟩
abbrev cX11_state : ByteArray := prog_13_method_20_code
def yX11_state : MethodName := ⟨RX11, "state", "(I)I"⟩
abbrev cX11_keep : ByteArray := prog_13_method_21_code
def yX11_keep : MethodName := ⟨RX11, "keep", "()V"⟩
abbrev cX11_undo : ByteArray := prog_13_method_22_code
def yX11_undo : MethodName := ⟨RX11, "undo", "()V"⟩
abbrev cX11_put : ByteArray := prog_13_method_23_code
def yX11_put : MethodName := ⟨RX11, "put", "(I)V"⟩
abbrev cX11_acts : ByteArray := prog_13_method_24_code
def yX11_acts : MethodName := ⟨RX11, "acts", "(I)V"⟩
abbrev cX11_length : ByteArray := prog_13_method_25_code
def yX11_length : MethodName := ⟨RX11, "length", "(I)I"⟩
abbrev cX11_at : ByteArray := prog_13_method_26_code
def yX11_at : MethodName := ⟨RX11, "at", "(II)I"⟩
abbrev cX11_bytesIn : ByteArray := prog_13_method_27_code
def yX11_bytesIn : MethodName := ⟨RX11, "bytesIn", "(I)I"⟩
abbrev cX11_feed : ByteArray := prog_13_method_28_code
def yX11_feed : MethodName := ⟨RX11, "feed", "(II)I"⟩
abbrev cX11_end : ByteArray := prog_13_method_29_code
def yX11_end : MethodName := ⟨RX11, "end", "(I)Z"⟩
abbrev cX11_isRow : ByteArray := prog_13_method_30_code
def yX11_isRow : MethodName := ⟨RX11, "isRow", "()Z"⟩
abbrev cX11_word : ByteArray := prog_13_method_31_code
def yX11_word : MethodName := ⟨RX11, "word", "(I)I"⟩
abbrev cX11_isWord : ByteArray := prog_13_method_32_code
def yX11_isWord : MethodName := ⟨RX11, "isWord", "(I)Z"⟩
abbrev cX11_letter : ByteArray := prog_13_method_33_code
def yX11_letter : MethodName := ⟨RX11, "letter", "(II)I"⟩
abbrev cX11_written : ByteArray := prog_13_method_34_code
def yX11_written : MethodName := ⟨RX11, "written", "()I"⟩
abbrev cX11_ranked : ByteArray := prog_13_method_35_code
def yX11_ranked : MethodName := ⟨RX11, "ranked", "(I)I"⟩
abbrev cX11_foreseenAt : ByteArray := prog_13_method_36_code
def yX11_foreseenAt : MethodName := ⟨RX11, "foreseenAt", "(I)I"⟩
abbrev cX11_areNear : ByteArray := prog_13_method_37_code
def yX11_areNear : MethodName := ⟨RX11, "areNear", "(II)Z"⟩
abbrev cX11_near : ByteArray := prog_13_method_38_code
def yX11_near : MethodName := ⟨RX11, "near", "(II)I"⟩
abbrev cX11_offeredAt : ByteArray := prog_13_method_39_code
def yX11_offeredAt : MethodName := ⟨RX11, "offeredAt", "(I)I"⟩
abbrev cX11_foreseen : ByteArray := prog_13_method_40_code
def yX11_foreseen : MethodName := ⟨RX11, "foreseen", "(I)I"⟩
abbrev cX11_offered : ByteArray := prog_13_method_41_code
def yX11_offered : MethodName := ⟨RX11, "offered", "(I)I"⟩
abbrev cX11_share : ByteArray := prog_13_method_42_code
def yX11_share : MethodName := ⟨RX11, "share", "(II)Z"⟩
abbrev cX11_costOf : ByteArray := prog_13_method_43_code
def yX11_costOf : MethodName := ⟨RX11, "costOf", "(I)I"⟩
abbrev cX11_cost : ByteArray := prog_13_method_44_code
def yX11_cost : MethodName := ⟨RX11, "cost", "(I)I"⟩
abbrev cX11_mean : ByteArray := prog_13_method_45_code
def yX11_mean : MethodName := ⟨RX11, "mean", "(I)J"⟩
abbrev cX11_weight : ByteArray := prog_13_method_46_code
def yX11_weight : MethodName := ⟨RX11, "weight", "(II)J"⟩
abbrev cX11_index : ByteArray := prog_13_method_47_code
def yX11_index : MethodName := ⟨RX11, "index", "(III)I"⟩
abbrev cX11_item : ByteArray := prog_13_method_48_code
def yX11_item : MethodName := ⟨RX11, "item", "(III)J"⟩
abbrev cX11_sums : ByteArray := prog_13_method_49_code
def yX11_sums : MethodName := ⟨RX11, "sums", "(I)V"⟩
abbrev cX11_lays : ByteArray := prog_13_method_50_code
def yX11_lays : MethodName := ⟨RX11, "lays", "(IIIIZ)V"⟩
abbrev cX11_lay : ByteArray := prog_13_method_51_code
def yX11_lay : MethodName := ⟨RX11, "lay", "()I"⟩
abbrev cX11_count : ByteArray := prog_13_method_52_code
def yX11_count : MethodName := ⟨RX11, "count", "(I)I"⟩
def RJ9 : String := "java/lang/Math"
def TJ9 : u_T := fun k => match k with
  | _ => ("", "", "", false)
def tyJ9 : Nat → FieldType := fun k => match k with
  | _ => .int
abbrev wsJ90 : List Cond := u_ws RJ9 TJ9 0
theorem nmJ9 : ∀ a, a < 0 → ∀ b, b < 0 → a ≠ b → (TJ9 a).2.1 ≠ (TJ9 b).2.1 := by decide +kernel
theorem tyJ9_ok : ∀ k, k < 0 → parseFieldDescriptor (TJ9 k).2.2.1 = some (tyJ9 k) := by decide +kernel
abbrev cJ9_max_7cf53 : ByteArray := prog_15_method_65_code
def yJ9_max_7cf53 : MethodName := ⟨RJ9, "max", "(II)I"⟩
abbrev cJ9_min_7cf53 : ByteArray := prog_15_method_69_code
def yJ9_min_7cf53 : MethodName := ⟨RJ9, "min", "(II)I"⟩
abbrev cJ9_min_f86c9 : ByteArray := prog_15_method_70_code
def yJ9_min_f86c9 : MethodName := ⟨RJ9, "min", "(JJ)J"⟩
def RJ7 : String := "java/util/Arrays"
def TJ7 : u_T := fun k => match k with
  | _ => ("", "", "", false)
def tyJ7 : Nat → FieldType := fun k => match k with
  | _ => .int
abbrev wsJ70 : List Cond := u_ws RJ7 TJ7 0
theorem nmJ7 : ∀ a, a < 0 → ∀ b, b < 0 → a ≠ b → (TJ7 a).2.1 ≠ (TJ7 b).2.1 := by decide +kernel
theorem tyJ7_ok : ∀ k, k < 0 → parseFieldDescriptor (TJ7 k).2.2.1 = some (tyJ7 k) := by decide +kernel
abbrev cJ7_fill_53178 : ByteArray := prog_18_method_103_code
def yJ7_fill_53178 : MethodName := ⟨RJ7, "fill", "([II)V"⟩
def RL : String := "SwitchDeskLaw"
abbrev cL_at : ByteArray := method_3_code
def yL_at : MethodName := ⟨RL, "at", "(LSwitchDesk;II[J)I"⟩
abbrev cL_letter : ByteArray := method_4_code
def yL_letter : MethodName := ⟨RL, "letter", "(LSwitchDesk;II[J)I"⟩
abbrev cL_law : ByteArray := code
def yL_law : MethodName := ⟨RL, "law", "([I)Z"⟩
abbrev vwCl : List vw_C := [(RX0, TX0, 4), (RX1, TX1, 3), (RX2, TX2, 7), (RX3, TX3, 10), (RX4, TX4, 1), (RX5, TX5, 5), (RX6, TX6, 4), (RX7, TX7, 7), (RX8, TX8, 2), (RX9, TX9, 11), (RX10, TX10, 9), (RX11, TX11, 38)]
end
section
/-! THE TRIPLE E: a method's walk over a PURE heap. A pure heap is a list of cells; a reference is the place of its cell; places 0, 1, 2 are three int arrays that nobody writes (the script, two tables). -/
abbrev PCell : Type := (Nat × vp_A) ⊕ (Nat × List Value)
abbrev HP : Type := List PCell
abbrev MI : Type := MethodName × ByteArray × Nat × Option FieldType
def R_nse : String := "java/util/NoSuchElementException"
def CL : List vw_C := vwCl ++ [(R_nse, TX0, 0)]
def kty (k : Nat) : FieldType := match k with
  | 0 => .int
  | 1 => .boolean
  | 2 => .byte
  | 3 => .long
  | _ => .object "SwitchDesk$Chain"
def adr (N0 : Nat) (B : Nat → Nat) (i : Nat) : Nat := if i < 3 then B i else N0 + (i - 3)
def tv (a : Nat → Nat) (v : Value) : Value := match v with
  | .ref i => .ref (a i)
  | .int x => .int x
  | .long x => .long x
  | .float x => .float x
  | .double x => .double x
  | .null => .null
  | .retAddr x => .retAddr x
def ta (a : Nat → Nat) (x : vp_A) : vp_A := (x.1, match x.2 with
  | .inr (.inr (.inr (.inr f))) => .inr (.inr (.inr (.inr (fun j => (f j).map a))))
  | .inl f => .inl f
  | .inr (.inl f) => .inr (.inl f)
  | .inr (.inr (.inl f)) => .inr (.inr (.inl f))
  | .inr (.inr (.inr (.inl f))) => .inr (.inr (.inr (.inl f))))
def te (a : Nat → Nat) (cA : ClassId) (c : PCell) : va_E := match c with
  | .inl q => .inl (cA, ta a q.2)
  | .inr q => .inr (q.1, q.2.map (tv a))
def wd (N0 : Nat) (B : Nat → Nat) (ca : Nat → ClassId) (h : HP) : va_W := (h.drop 3).mapIdx (fun i c => (N0 + i, te (adr N0 B) (ca (i + 3)) c))
def AA (N0 : Nat) : Nat → Prop := fun q => N0 ≤ q
theorem tv_cat (a : Nat → Nat) (v : Value) : (tv a v).category = v.category := by cases v <;> rfl
theorem tv_rf (a : Nat → Nat) (r : Option Nat) : tv a (va_rf r) = va_rf (r.map a) := by cases r <;> rfl
theorem adr_ge {N0 : Nat} {B : Nat → Nat} {i : Nat} (h : 3 ≤ i) : adr N0 B i = N0 + (i - 3) := by
  unfold adr
  rw [if_neg (by omega)]
theorem wd_get {N0 : Nat} {B : Nat → Nat} {ca : Nat → ClassId} {h : HP} {i : Nat} {c : PCell} (h3 : 3 ≤ i) (hc : h[i]? = some c) : (wd N0 B ca h)[i - 3]? = some (adr N0 B i, te (adr N0 B) (ca i) c) := by
  unfold wd
  rw [List.getElem?_mapIdx, List.getElem?_drop, show 3 + (i - 3) = i by omega, hc, Option.map_some, adr_ge h3, show i - 3 + 3 = i by omega]
theorem wd_of {N0 : Nat} {B : Nat → Nat} {ca : Nat → ClassId} {h : HP} {k : Nat} {q : Nat × va_E} (hq : (wd N0 B ca h)[k]? = some q) : ∃ c, h[k + 3]? = some c ∧ q = (N0 + k, te (adr N0 B) (ca (k + 3)) c) := by
  unfold wd at hq
  rw [List.getElem?_mapIdx, List.getElem?_drop, show 3 + k = k + 3 by omega] at hq
  cases hc : h[k + 3]? with
  | none => rw [hc] at hq; simp at hq
  | some c =>
    rw [hc, Option.map_some] at hq
    exact ⟨c, rfl, (Option.some.inj hq).symm⟩
theorem wd_D {N0 : Nat} {B : Nat → Nat} {ca : Nat → ClassId} {h : HP} : va_D (AA N0) (wd N0 B ca h) := by
  refine ⟨fun i j p q hp hq e => ?_, fun k q hq => ?_⟩
  · obtain ⟨_, -, rfl⟩ := wd_of hp
    obtain ⟨_, -, rfl⟩ := wd_of hq
    dsimp only at e
    omega
  · obtain ⟨_, -, rfl⟩ := wd_of hq
    exact Nat.le_add_right _ _
theorem wd_set {N0 : Nat} {B : Nat → Nat} {ca : Nat → ClassId} {h : HP} {i : Nat} {c : PCell} (h3 : 3 ≤ i) : (wd N0 B ca h).set (i - 3) (adr N0 B i, te (adr N0 B) (ca i) c) = wd N0 B ca (h.set i c) := by
  apply List.ext_getElem?
  intro k
  unfold wd
  simp only [List.getElem?_set, List.getElem?_mapIdx, List.getElem?_drop, List.length_mapIdx, List.length_drop, adr_ge h3]
  by_cases hk : i - 3 = k
  · subst hk
    rw [if_pos rfl, if_pos (show i = 3 + (i - 3) by omega)]
    by_cases hl : i < h.length
    · rw [if_pos (by omega), if_pos (by omega), Option.map_some, show i - 3 + 3 = i by omega]
    · rw [if_neg (by omega), if_neg (by omega), Option.map_none]
  · rw [if_neg hk, if_neg (by omega)]
theorem wd_push {N0 : Nat} {B : Nat → Nat} {ca ca' : Nat → ClassId} {h : HP} {c : PCell} (h3 : 3 ≤ h.length) (hca : ∀ i, i < h.length → ca' i = ca i) : wd N0 B ca' (h ++ [c]) = wd N0 B ca h ++ [(N0 + (h.length - 3), te (adr N0 B) (ca' h.length) c)] := by
  unfold wd
  rw [List.drop_append_of_le_length h3, List.mapIdx_append]
  congr 1
  · apply List.ext_getElem?
    intro k
    simp only [List.getElem?_mapIdx, List.getElem?_drop]
    by_cases hl : 3 + k < h.length
    · rw [hca (k + 3) (by omega)]
    · rw [List.getElem?_eq_none (by omega)]
      rfl
  · simp only [List.mapIdx_cons, List.mapIdx_nil, List.length_drop, Nat.zero_add, show h.length - 3 + 3 = h.length by omega]
/-- what nobody writes: the script, the two tables, the statics that are only carried -/
def XI (N0 : Nat) (B : Nat → Nat) (h : HP) (U : State) (H : Heap) : Prop :=
  (∀ j, j < 3 → ∃ (n : Nat) (f : Nat → Int32), h[j]? = some (.inl (5, n, .inl f)) ∧ va_T .int (B j) n (fun i => .int (f i)) (AA N0) U H) ∧
  va_Z "SwitchDesk$Numbers" "LOWEST" "[I" (.ref (B 1)) (AA N0) U H ∧ va_Z "SwitchDesk$Numbers" "HIGHEST" "[I" (.ref (B 2)) (AA N0) U H ∧
  va_Zq "java/lang/Throwable" "UNASSIGNED_STACK" "[Ljava/lang/StackTraceElement;" (AA N0) U H ∧ va_Zq "java/lang/Throwable" "SUPPRESSED_SENTINEL" "Ljava/util/List;" (AA N0) U H
def HI (N0 : Nat) (B : Nat → Nat) (D : va_G) (ca : Nat → ClassId) (tys : List (ClassId × FieldType)) (h : HP) (U : State) (H : Heap) : Prop :=
  va_K D CL tys U ∧ va_P D CL (wd N0 B ca h) H ∧ H.size + 3 = N0 + h.length ∧ 3 ≤ h.length ∧ (∀ (i k : Nat) (x : vp_A), h[i]? = some (.inl (k, x)) → 3 ≤ i → k < 5 ∧ ∃ t : Nat, tys[t]? = some (ca i, kty k)) ∧ XI N0 B h U H
theorem XI.moved {N0 : Nat} {B : Nat → Nat} {h : HP} {u U : State} {H : Heap} (hvm : u.vm.Alike U.vm) (hX : XI N0 B h u H) : XI N0 B h U H := by
  obtain ⟨h1, h2, h3, h4, h5⟩ := hX
  refine ⟨fun j hj => ?_, h2.moved hvm, h3.moved hvm, h4.moved hvm, h5.moved hvm⟩
  obtain ⟨n, f, a, b⟩ := h1 j hj
  exact ⟨n, f, a, b.moved hvm⟩
theorem XI.kept {N0 : Nat} {B : Nat → Nat} {h h' : HP} {U : State} {H H1 : Heap} (hX : XI N0 B h U H) (hh : ∀ j, j < 3 → h'[j]? = h[j]?) (hq : ∀ a : Nat, a < H.size → ¬ AA N0 a → H1[a]? = H[a]?) : XI N0 B h' U H1 := by
  obtain ⟨h1, h2, h3, h4, h5⟩ := hX
  refine ⟨fun j hj => ?_, h2.kept hq, h3.kept hq, h4.kept hq, h5.kept hq⟩
  obtain ⟨n, f, a, b⟩ := h1 j hj
  exact ⟨n, f, by rw [hh j hj]; exact a, b.kept hq⟩
theorem HI.moved {N0 : Nat} {B : Nat → Nat} {D : va_G} {ca : Nat → ClassId} {tys : List (ClassId × FieldType)} {h : HP} {u U : State} {H : Heap} (hvm : u.vm.Alike U.vm) (hI : HI N0 B D ca tys h u H) : HI N0 B D ca tys h U H := by
  obtain ⟨h1, h2, h3, h4, h5, h6⟩ := hI
  exact ⟨h1.moved hvm, h2, h3, h4, h5, h6.moved hvm⟩
def GT : List Cond := lw_tbl.filter goodWord
theorem gt_in {w : Cond} (i : Nat) (h : tables_1[i]? = some w) (hg : goodWord w = true) : w ∈ GT := List.mem_filter.mpr ⟨List.mem_append_right _ (List.mem_of_getElem? h), hg⟩
theorem gt_sel {q : MethodName × Nat} (i : Nat) (h : lw_privs[i]? = some q) : Cond.selects q.1.cls q.1 q.1 ∈ GT := List.mem_filter.mpr ⟨List.mem_append_left _ (List.mem_map.mpr ⟨q, List.mem_of_getElem? h, rfl⟩), rfl⟩
theorem gt_good (y : MI) (hy : Cond.code y.1 y.2.1 y.2.2.1 y.2.2.2 ∈ GT) : GoodIn GT (Cond.code y.1 y.2.1 y.2.2.1 y.2.2.2 :: GT) := by
  intro w hw
  rcases List.mem_cons.mp hw with rfl | h
  · exact ⟨hy, good_of_word (List.mem_filter.mp hy).2⟩
  · exact ⟨h, good_of_word (List.mem_filter.mp h).2⟩
/-- the links between nest mates -/
def NI (U : State) : Prop := (∀ a i x b, Cond.methodLinkNest a i x b ∈ lw_tbl → va_Nw (.methodLinkNest a i x b) U) ∧ (∀ a i r n d b, Cond.fieldLinkNest a i r n d b ∈ lw_tbl → va_Nw (.fieldLinkNest a i r n d b) U) ∧ va_AO "SwitchDesk$Chain" U
def CX (y : MI) (p : Program) (s : State) (m : MethodId) (args : Array Value) (meth : Method) (c : Code) : Prop :=
  p.tables.exec = Jvm.exec ∧ c.code = y.2.1 ∧ meth.sig.returnType = y.2.2.2 ∧ c.maxLocals = y.2.2.1 ∧ s.vm.findClass y.1.cls = some m.cls ∧ (∀ w ∈ GT, w.before args s = true) ∧ meth.locks = false ∧ meth.name = y.1.name ∧ NI s
def RM (R : Room) (d mc ms : Nat) : Prop := d ≤ R.frames ∧ 40 * d ≤ R.locals ∧ mc ≤ R.cells ∧ ms ≤ R.slots
def EQ (N0 : Nat) (B : Nat → Nat) (D : va_G) (Q : Option Value → HP → Prop) : Array Value → State → Outcome → State → Prop := fun _ st o t =>
  ∃ (r : Option Value) (h : HP) (ca : Nat → ClassId) (tys : List (ClassId × FieldType)), o = .returned (r.map (tv (adr N0 B))) ∧ Q r h ∧ HI N0 B D ca tys h t t.heap ∧ va_F (AA N0) st t
def lm (a : Nat → Nat) (lv : List (Nat × Value)) : List (Nat × Value) := lv.map (fun q => (q.1, tv a q.2))
/-- from method y at pc, locals lv, operand stack st, pure heap h: it returns, and Q; at most d frames deep, at most k cells of n slots are made -/
def E (y : MI) (d k n pc : Nat) (lv : List (Nat × Value)) (st : List Value) (h : HP) (Q : Option Value → HP → Prop) : Prop :=
  ∀ (p : Program) (l : Launch) (e : Env) (R : Room) (s : State) (m : MethodId) (args : Array Value) (below : List Frame) (meth : Method) (c : Code) (H : Heap) (locs : List Loc) (cells slots mc ms N0 : Nat) (B : Nat → Nat) (D : va_G) (ca : Nat → ClassId) (tys : List (ClassId × FieldType)) (ls : Array Slot),
    CX y p s m args meth c → RM R d mc ms → cells + k ≤ mc → slots + n ≤ ms → N0 ≤ s.heap.size → va_S (AA N0) s.heap H locs → HI N0 B D ca tys h s H → lv_has ls y.2.2.1 (lm (adr N0 B) lv) →
    W p l e R s m args below meth c H locs cells slots (MQ below (EQ N0 B D Q) args s mc ms (AA N0)) (F0 m pc ls (st.map (tv (adr N0 B))))
section EL
variable {y : MI} {d k n pc : Nat} {lv : List (Nat × Value)} {st : List Value} {h : HP} {Q : Option Value → HP → Prop}
theorem lm_filter (a : Nat → Nat) (lv : List (Nat × Value)) (i : Nat) : (lm a lv).filter (fun q => !(q.1 == i) && !(q.1 + 1 == i && q.2.category == 2)) = lm a (lv.filter (fun q => !(q.1 == i) && !(q.1 + 1 == i && q.2.category == 2))) := by
  unfold lm
  rw [List.filter_map]
  congr 1
  apply List.filter_congr
  intro q _
  simp [Function.comp, tv_cat]
theorem lm_filter2 (a : Nat → Nat) (lv : List (Nat × Value)) (i : Nat) : (lm a lv).filter (fun q => !(q.1 == i) && (!(q.1 == i + 1) && !(q.1 + 1 == i && q.2.category == 2))) = lm a (lv.filter (fun q => !(q.1 == i) && (!(q.1 == i + 1) && !(q.1 + 1 == i && q.2.category == 2)))) := by
  unfold lm
  rw [List.filter_map]
  congr 1
  apply List.filter_congr
  intro q _
  simp [Function.comp, tv_cat]
theorem lm_at {ls : Array Slot} {nL : Nat} {a : Nat → Nat} {lv : List (Nat × Value)} {i : Nat} {v : Value} (hl : lv_has ls nL (lm a lv)) (hv : lv.lookup i = some v) : ls[i]? = some (.val (tv a v)) := by
  have hm : (i, v) ∈ lv := by
    clear hl
    induction lv with
    | nil => simp at hv
    | cons q t ih =>
      obtain ⟨j, w⟩ := q
      rw [List.lookup_cons] at hv
      by_cases hj : i == j
      · rw [hj] at hv
        simp only [Option.some.injEq] at hv
        have : i = j := by simpa using hj
        subst this
        subst hv
        exact List.mem_cons_self
      · simp only [hj] at hv
        exact List.mem_cons_of_mem _ (ih hv)
  exact hl.2.2 (i, tv a v) (List.mem_map.mpr ⟨(i, v), hm, rfl⟩)
theorem E.weak {Q' : Option Value → HP → Prop} (hE : E y d k n pc lv st h Q) (hQ : ∀ r h', Q r h' → Q' r h') : E y d k n pc lv st h Q' := by
  intro p l e R s m args below meth c H locs cells slots mc ms N0 B D ca tys ls c1 c2 c3 c4 c5 c6 c7 c8 T hT X
  obtain ⟨t, a1, o, a2, a3, ⟨r, h', ca', tys', b1, b2, b3⟩, a5⟩ := hE p l e R s m args below meth c H locs cells slots mc ms N0 B D ca tys ls c1 c2 c3 c4 c5 c6 c7 c8 T hT X
  exact ⟨t, a1, o, a2, a3, ⟨r, h', ca', tys', b1, hQ _ _ b2, b3⟩, a5⟩
theorem E.mono {d' k' n' : Nat} (hE : E y d k n pc lv st h Q) (h1 : d ≤ d') (h2 : k ≤ k') (h3 : n ≤ n') : E y d' k' n' pc lv st h Q := by
  intro p l e R s m args below meth c H locs cells slots mc ms N0 B D ca tys ls c1 c2 c3 c4 c5 c6 c7 c8
  exact hE p l e R s m args below meth c H locs cells slots mc ms N0 B D ca tys ls c1 ⟨Nat.le_trans h1 c2.1, Nat.le_trans (Nat.mul_le_mul_left 40 h1) c2.2.1, c2.2.2⟩ (by omega) (by omega) c5 c6 c7 c8
/-- fewer locals, in any order -/
theorem E.locals (lv' : List (Nat × Value)) (hs : ∀ q ∈ lv', q ∈ lv) (hE : E y d k n pc lv' st h Q) : E y d k n pc lv st h Q := by
  intro p l e R s m args below meth c H locs cells slots mc ms N0 B D ca tys ls c1 c2 c3 c4 c5 c6 c7 c8
  refine hE p l e R s m args below meth c H locs cells slots mc ms N0 B D ca tys ls c1 c2 c3 c4 c5 c6 c7 ⟨c8.1, c8.2.1, fun q hq => ?_⟩
  obtain ⟨q', h1, rfl⟩ := List.mem_map.mp hq
  exact c8.2.2 _ (List.mem_map.mpr ⟨q', hs q' h1, rfl⟩)
end EL
end
section
/-! ONE RULE AN INSTRUCTION: generated by wip/tools/genrules.py -/
section ER
variable {y : MI} {d k n pc : Nat} {lv : List (Nat × Value)} {st : List Value} {h : HP} {Q : Option Value → HP → Prop}
theorem E_iconst {z : Int} {v : Int32} (hd : decode y.2.1 pc = .ok (.iconst z, 1)) (hv : Int32.ofInt z = v) (K : E y d k n (pc + 1) lv (.int v :: st) h Q) : E y d k n pc lv (st) h Q := by
  intro p l e R s m args below meth c H locs cells slots mc ms N0 B D ca tys ls c1 c2 c3 c4 c5 c6 c7 c8
  exact lv_iconst c1.1 c1.2.1 hd hv (K p l e R s m args below meth c H locs cells slots mc ms N0 B D ca tys ls c1 c2 c3 c4 c5 c6 c7 c8)
theorem E_bipush {z : Int} {v : Int32} (hd : decode y.2.1 pc = .ok (.bipush z, 2)) (hv : (Int8.ofInt z).toInt32 = v) (K : E y d k n (pc + 2) lv (.int v :: st) h Q) : E y d k n pc lv (st) h Q := by
  intro p l e R s m args below meth c H locs cells slots mc ms N0 B D ca tys ls c1 c2 c3 c4 c5 c6 c7 c8
  exact lv_bipush c1.1 c1.2.1 hd hv (K p l e R s m args below meth c H locs cells slots mc ms N0 B D ca tys ls c1 c2 c3 c4 c5 c6 c7 c8)
theorem E_sipush {z : Int} {v : Int32} (hd : decode y.2.1 pc = .ok (.sipush z, 3)) (hv : (Int16.ofInt z).toInt32 = v) (K : E y d k n (pc + 3) lv (.int v :: st) h Q) : E y d k n pc lv (st) h Q := by
  intro p l e R s m args below meth c H locs cells slots mc ms N0 B D ca tys ls c1 c2 c3 c4 c5 c6 c7 c8
  exact lv_sipush c1.1 c1.2.1 hd hv (K p l e R s m args below meth c H locs cells slots mc ms N0 B D ca tys ls c1 c2 c3 c4 c5 c6 c7 c8)
theorem E_lconst {z : Fin 2} {v : Int64} (hd : decode y.2.1 pc = .ok (.lconst z, 1)) (hv : Int64.ofNat (z : Nat) = v) (K : E y d k n (pc + 1) lv (.long v :: st) h Q) : E y d k n pc lv (st) h Q := by
  intro p l e R s m args below meth c H locs cells slots mc ms N0 B D ca tys ls c1 c2 c3 c4 c5 c6 c7 c8
  exact lv_lconst c1.1 c1.2.1 hd hv (K p l e R s m args below meth c H locs cells slots mc ms N0 B D ca tys ls c1 c2 c3 c4 c5 c6 c7 c8)
theorem E_null  (hd : decode y.2.1 pc = .ok (.aconst_null, 1))  (K : E y d k n (pc + 1) lv (.null :: st) h Q) : E y d k n pc lv (st) h Q := by
  intro p l e R s m args below meth c H locs cells slots mc ms N0 B D ca tys ls c1 c2 c3 c4 c5 c6 c7 c8
  exact lv_null c1.1 c1.2.1 hd (K p l e R s m args below meth c H locs cells slots mc ms N0 B D ca tys ls c1 c2 c3 c4 c5 c6 c7 c8)
theorem E_iload_n {i : Fin 4} {x : Int32} (hd : decode y.2.1 pc = .ok (.iload_n i, 1)) (hl : lv.lookup (i : Nat) = some (.int x)) (K : E y d k n (pc + 1) lv (.int x :: st) h Q) : E y d k n pc lv (st) h Q := by
  intro p l e R s m args below meth c H locs cells slots mc ms N0 B D ca tys ls c1 c2 c3 c4 c5 c6 c7 c8
  exact lv_iload_n c1.1 c1.2.1 hd rfl (lm_at c8 hl) (K p l e R s m args below meth c H locs cells slots mc ms N0 B D ca tys ls c1 c2 c3 c4 c5 c6 c7 c8)
theorem E_iload {i : Nat} {x : Int32} (hd : decode y.2.1 pc = .ok (.iload i, 2)) (hl : lv.lookup i = some (.int x)) (K : E y d k n (pc + 2) lv (.int x :: st) h Q) : E y d k n pc lv (st) h Q := by
  intro p l e R s m args below meth c H locs cells slots mc ms N0 B D ca tys ls c1 c2 c3 c4 c5 c6 c7 c8
  exact lv_iload c1.1 c1.2.1 hd (lm_at c8 hl) (K p l e R s m args below meth c H locs cells slots mc ms N0 B D ca tys ls c1 c2 c3 c4 c5 c6 c7 c8)
theorem E_lload_n {i : Fin 4} {x : Int64} (hd : decode y.2.1 pc = .ok (.lload_n i, 1)) (hl : lv.lookup (i : Nat) = some (.long x)) (K : E y d k n (pc + 1) lv (.long x :: st) h Q) : E y d k n pc lv (st) h Q := by
  intro p l e R s m args below meth c H locs cells slots mc ms N0 B D ca tys ls c1 c2 c3 c4 c5 c6 c7 c8
  exact lv_lload_n c1.1 c1.2.1 hd rfl (lm_at c8 hl) (K p l e R s m args below meth c H locs cells slots mc ms N0 B D ca tys ls c1 c2 c3 c4 c5 c6 c7 c8)
theorem E_lload {i : Nat} {x : Int64} (hd : decode y.2.1 pc = .ok (.lload i, 2)) (hl : lv.lookup i = some (.long x)) (K : E y d k n (pc + 2) lv (.long x :: st) h Q) : E y d k n pc lv (st) h Q := by
  intro p l e R s m args below meth c H locs cells slots mc ms N0 B D ca tys ls c1 c2 c3 c4 c5 c6 c7 c8
  exact lv_lload c1.1 c1.2.1 hd (lm_at c8 hl) (K p l e R s m args below meth c H locs cells slots mc ms N0 B D ca tys ls c1 c2 c3 c4 c5 c6 c7 c8)
theorem E_aload_n {i : Fin 4} {x : Nat} (hd : decode y.2.1 pc = .ok (.aload_n i, 1)) (hl : lv.lookup (i : Nat) = some (.ref x)) (K : E y d k n (pc + 1) lv (.ref x :: st) h Q) : E y d k n pc lv (st) h Q := by
  intro p l e R s m args below meth c H locs cells slots mc ms N0 B D ca tys ls c1 c2 c3 c4 c5 c6 c7 c8
  exact lv_aload_n c1.1 c1.2.1 hd rfl (lm_at c8 hl) (K p l e R s m args below meth c H locs cells slots mc ms N0 B D ca tys ls c1 c2 c3 c4 c5 c6 c7 c8)
theorem E_aload {i : Nat} {x : Nat} (hd : decode y.2.1 pc = .ok (.aload i, 2)) (hl : lv.lookup i = some (.ref x)) (K : E y d k n (pc + 2) lv (.ref x :: st) h Q) : E y d k n pc lv (st) h Q := by
  intro p l e R s m args below meth c H locs cells slots mc ms N0 B D ca tys ls c1 c2 c3 c4 c5 c6 c7 c8
  exact lv_aload c1.1 c1.2.1 hd (lm_at c8 hl) (K p l e R s m args below meth c H locs cells slots mc ms N0 B D ca tys ls c1 c2 c3 c4 c5 c6 c7 c8)
theorem E_aload_nN {i : Fin 4} (hd : decode y.2.1 pc = .ok (.aload_n i, 1)) (hl : lv.lookup (i : Nat) = some .null) (K : E y d k n (pc + 1) lv (.null :: st) h Q) : E y d k n pc lv (st) h Q := by
  intro p l e R s m args below meth c H locs cells slots mc ms N0 B D ca tys ls c1 c2 c3 c4 c5 c6 c7 c8
  exact lv_aload_nN c1.1 c1.2.1 hd rfl (lm_at c8 hl) (K p l e R s m args below meth c H locs cells slots mc ms N0 B D ca tys ls c1 c2 c3 c4 c5 c6 c7 c8)
theorem E_aloadN {i : Nat} (hd : decode y.2.1 pc = .ok (.aload i, 2)) (hl : lv.lookup i = some .null) (K : E y d k n (pc + 2) lv (.null :: st) h Q) : E y d k n pc lv (st) h Q := by
  intro p l e R s m args below meth c H locs cells slots mc ms N0 B D ca tys ls c1 c2 c3 c4 c5 c6 c7 c8
  exact lv_aloadN c1.1 c1.2.1 hd (lm_at c8 hl) (K p l e R s m args below meth c H locs cells slots mc ms N0 B D ca tys ls c1 c2 c3 c4 c5 c6 c7 c8)
theorem E_iadd {a b : Int32} (hd : decode y.2.1 pc = .ok (.iadd, 1))  (K : E y d k n (pc + 1) lv (.int (a + b) :: st) h Q) : E y d k n pc lv (.int b :: .int a :: st) h Q := by
  intro p l e R s m args below meth c H locs cells slots mc ms N0 B D ca tys ls c1 c2 c3 c4 c5 c6 c7 c8
  exact lv_iadd c1.1 c1.2.1 hd (K p l e R s m args below meth c H locs cells slots mc ms N0 B D ca tys ls c1 c2 c3 c4 c5 c6 c7 c8)
theorem E_isub {a b : Int32} (hd : decode y.2.1 pc = .ok (.isub, 1))  (K : E y d k n (pc + 1) lv (.int (a - b) :: st) h Q) : E y d k n pc lv (.int b :: .int a :: st) h Q := by
  intro p l e R s m args below meth c H locs cells slots mc ms N0 B D ca tys ls c1 c2 c3 c4 c5 c6 c7 c8
  exact lv_isub c1.1 c1.2.1 hd (K p l e R s m args below meth c H locs cells slots mc ms N0 B D ca tys ls c1 c2 c3 c4 c5 c6 c7 c8)
theorem E_imul {a b : Int32} (hd : decode y.2.1 pc = .ok (.imul, 1))  (K : E y d k n (pc + 1) lv (.int (a * b) :: st) h Q) : E y d k n pc lv (.int b :: .int a :: st) h Q := by
  intro p l e R s m args below meth c H locs cells slots mc ms N0 B D ca tys ls c1 c2 c3 c4 c5 c6 c7 c8
  exact lv_imul c1.1 c1.2.1 hd (K p l e R s m args below meth c H locs cells slots mc ms N0 B D ca tys ls c1 c2 c3 c4 c5 c6 c7 c8)
theorem E_iand {a b : Int32} (hd : decode y.2.1 pc = .ok (.iand, 1))  (K : E y d k n (pc + 1) lv (.int (a &&& b) :: st) h Q) : E y d k n pc lv (.int b :: .int a :: st) h Q := by
  intro p l e R s m args below meth c H locs cells slots mc ms N0 B D ca tys ls c1 c2 c3 c4 c5 c6 c7 c8
  exact lv_iand c1.1 c1.2.1 hd (K p l e R s m args below meth c H locs cells slots mc ms N0 B D ca tys ls c1 c2 c3 c4 c5 c6 c7 c8)
theorem E_ior {a b : Int32} (hd : decode y.2.1 pc = .ok (.ior, 1))  (K : E y d k n (pc + 1) lv (.int (a ||| b) :: st) h Q) : E y d k n pc lv (.int b :: .int a :: st) h Q := by
  intro p l e R s m args below meth c H locs cells slots mc ms N0 B D ca tys ls c1 c2 c3 c4 c5 c6 c7 c8
  exact lv_ior c1.1 c1.2.1 hd (K p l e R s m args below meth c H locs cells slots mc ms N0 B D ca tys ls c1 c2 c3 c4 c5 c6 c7 c8)
theorem E_idiv {a b : Int32} (hd : decode y.2.1 pc = .ok (.idiv, 1)) (hne : ¬ b = 0) (K : E y d k n (pc + 1) lv (.int (a / b) :: st) h Q) : E y d k n pc lv (.int b :: .int a :: st) h Q := by
  intro p l e R s m args below meth c H locs cells slots mc ms N0 B D ca tys ls c1 c2 c3 c4 c5 c6 c7 c8
  exact lv_idiv c1.1 c1.2.1 hd hne (K p l e R s m args below meth c H locs cells slots mc ms N0 B D ca tys ls c1 c2 c3 c4 c5 c6 c7 c8)
theorem E_irem {a b : Int32} (hd : decode y.2.1 pc = .ok (.irem, 1)) (hne : ¬ b = 0) (K : E y d k n (pc + 1) lv (.int (a - a / b * b) :: st) h Q) : E y d k n pc lv (.int b :: .int a :: st) h Q := by
  intro p l e R s m args below meth c H locs cells slots mc ms N0 B D ca tys ls c1 c2 c3 c4 c5 c6 c7 c8
  exact lv_irem c1.1 c1.2.1 hd hne (K p l e R s m args below meth c H locs cells slots mc ms N0 B D ca tys ls c1 c2 c3 c4 c5 c6 c7 c8)
theorem E_ishl {a b : Int32} (hd : decode y.2.1 pc = .ok (.ishl, 1))  (K : E y d k n (pc + 1) lv (.int (a <<< (b &&& 31)) :: st) h Q) : E y d k n pc lv (.int b :: .int a :: st) h Q := by
  intro p l e R s m args below meth c H locs cells slots mc ms N0 B D ca tys ls c1 c2 c3 c4 c5 c6 c7 c8
  exact lv_ishl c1.1 c1.2.1 hd (K p l e R s m args below meth c H locs cells slots mc ms N0 B D ca tys ls c1 c2 c3 c4 c5 c6 c7 c8)
theorem E_ishr {a b : Int32} (hd : decode y.2.1 pc = .ok (.ishr, 1))  (K : E y d k n (pc + 1) lv (.int (a >>> (b &&& 31)) :: st) h Q) : E y d k n pc lv (.int b :: .int a :: st) h Q := by
  intro p l e R s m args below meth c H locs cells slots mc ms N0 B D ca tys ls c1 c2 c3 c4 c5 c6 c7 c8
  exact lv_ishr c1.1 c1.2.1 hd (K p l e R s m args below meth c H locs cells slots mc ms N0 B D ca tys ls c1 c2 c3 c4 c5 c6 c7 c8)
theorem E_iushr {a b : Int32} (hd : decode y.2.1 pc = .ok (.iushr, 1))  (K : E y d k n (pc + 1) lv (.int ((a.toUInt32 >>> (b.toUInt32 &&& Int32.toUInt32 31)).toInt32) :: st) h Q) : E y d k n pc lv (.int b :: .int a :: st) h Q := by
  intro p l e R s m args below meth c H locs cells slots mc ms N0 B D ca tys ls c1 c2 c3 c4 c5 c6 c7 c8
  exact lv_iushr c1.1 c1.2.1 hd rfl (K p l e R s m args below meth c H locs cells slots mc ms N0 B D ca tys ls c1 c2 c3 c4 c5 c6 c7 c8)
theorem E_ladd {a b : Int64} (hd : decode y.2.1 pc = .ok (.ladd, 1))  (K : E y d k n (pc + 1) lv (.long (a + b) :: st) h Q) : E y d k n pc lv (.long b :: .long a :: st) h Q := by
  intro p l e R s m args below meth c H locs cells slots mc ms N0 B D ca tys ls c1 c2 c3 c4 c5 c6 c7 c8
  exact lv_ladd c1.1 c1.2.1 hd (K p l e R s m args below meth c H locs cells slots mc ms N0 B D ca tys ls c1 c2 c3 c4 c5 c6 c7 c8)
theorem E_lsub {a b : Int64} (hd : decode y.2.1 pc = .ok (.lsub, 1))  (K : E y d k n (pc + 1) lv (.long (a - b) :: st) h Q) : E y d k n pc lv (.long b :: .long a :: st) h Q := by
  intro p l e R s m args below meth c H locs cells slots mc ms N0 B D ca tys ls c1 c2 c3 c4 c5 c6 c7 c8
  exact lv_lsub c1.1 c1.2.1 hd (K p l e R s m args below meth c H locs cells slots mc ms N0 B D ca tys ls c1 c2 c3 c4 c5 c6 c7 c8)
theorem E_lmul {a b : Int64} (hd : decode y.2.1 pc = .ok (.lmul, 1))  (K : E y d k n (pc + 1) lv (.long (a * b) :: st) h Q) : E y d k n pc lv (.long b :: .long a :: st) h Q := by
  intro p l e R s m args below meth c H locs cells slots mc ms N0 B D ca tys ls c1 c2 c3 c4 c5 c6 c7 c8
  exact lv_lmul c1.1 c1.2.1 hd (K p l e R s m args below meth c H locs cells slots mc ms N0 B D ca tys ls c1 c2 c3 c4 c5 c6 c7 c8)
theorem E_ldiv {a b : Int64} (hd : decode y.2.1 pc = .ok (.ldiv, 1)) (hne : ¬ b = 0) (K : E y d k n (pc + 1) lv (.long (a / b) :: st) h Q) : E y d k n pc lv (.long b :: .long a :: st) h Q := by
  intro p l e R s m args below meth c H locs cells slots mc ms N0 B D ca tys ls c1 c2 c3 c4 c5 c6 c7 c8
  exact lv_ldiv c1.1 c1.2.1 hd hne (K p l e R s m args below meth c H locs cells slots mc ms N0 B D ca tys ls c1 c2 c3 c4 c5 c6 c7 c8)
theorem E_lrem {a b : Int64} (hd : decode y.2.1 pc = .ok (.lrem, 1)) (hne : ¬ b = 0) (K : E y d k n (pc + 1) lv (.long (a - a / b * b) :: st) h Q) : E y d k n pc lv (.long b :: .long a :: st) h Q := by
  intro p l e R s m args below meth c H locs cells slots mc ms N0 B D ca tys ls c1 c2 c3 c4 c5 c6 c7 c8
  exact lv_lrem c1.1 c1.2.1 hd hne (K p l e R s m args below meth c H locs cells slots mc ms N0 B D ca tys ls c1 c2 c3 c4 c5 c6 c7 c8)
theorem E_lcmp {a b : Int64} (hd : decode y.2.1 pc = .ok (.lcmp, 1))  (K : E y d k n (pc + 1) lv (.int (lg_cmp a b) :: st) h Q) : E y d k n pc lv (.long b :: .long a :: st) h Q := by
  intro p l e R s m args below meth c H locs cells slots mc ms N0 B D ca tys ls c1 c2 c3 c4 c5 c6 c7 c8
  exact W.lcmp c1.1 c1.2.1 hd (K p l e R s m args below meth c H locs cells slots mc ms N0 B D ca tys ls c1 c2 c3 c4 c5 c6 c7 c8)
theorem E_i2l {a : Int32} (hd : decode y.2.1 pc = .ok (.i2l, 1))  (K : E y d k n (pc + 1) lv (.long a.toInt64 :: st) h Q) : E y d k n pc lv (.int a :: st) h Q := by
  intro p l e R s m args below meth c H locs cells slots mc ms N0 B D ca tys ls c1 c2 c3 c4 c5 c6 c7 c8
  exact lv_i2l c1.1 c1.2.1 hd rfl (K p l e R s m args below meth c H locs cells slots mc ms N0 B D ca tys ls c1 c2 c3 c4 c5 c6 c7 c8)
theorem E_l2i {a : Int64} (hd : decode y.2.1 pc = .ok (.l2i, 1))  (K : E y d k n (pc + 1) lv (.int a.toInt32 :: st) h Q) : E y d k n pc lv (.long a :: st) h Q := by
  intro p l e R s m args below meth c H locs cells slots mc ms N0 B D ca tys ls c1 c2 c3 c4 c5 c6 c7 c8
  exact lv_l2i c1.1 c1.2.1 hd rfl (K p l e R s m args below meth c H locs cells slots mc ms N0 B D ca tys ls c1 c2 c3 c4 c5 c6 c7 c8)
theorem E_i2b {a : Int32} (hd : decode y.2.1 pc = .ok (.i2b, 1))  (K : E y d k n (pc + 1) lv (.int a.toInt8.toInt32 :: st) h Q) : E y d k n pc lv (.int a :: st) h Q := by
  intro p l e R s m args below meth c H locs cells slots mc ms N0 B D ca tys ls c1 c2 c3 c4 c5 c6 c7 c8
  exact lv_i2b c1.1 c1.2.1 hd rfl (K p l e R s m args below meth c H locs cells slots mc ms N0 B D ca tys ls c1 c2 c3 c4 c5 c6 c7 c8)
theorem E_dup {v : Value} (hd : decode y.2.1 pc = .ok (.dup, 1)) (hv : v.category = 1) (K : E y d k n (pc + 1) lv (v :: v :: st) h Q) : E y d k n pc lv (v :: st) h Q := by
  intro p l e R s m args below meth c H locs cells slots mc ms N0 B D ca tys ls c1 c2 c3 c4 c5 c6 c7 c8
  exact lv_dup c1.1 c1.2.1 hd (by rw [tv_cat]; exact hv) (K p l e R s m args below meth c H locs cells slots mc ms N0 B D ca tys ls c1 c2 c3 c4 c5 c6 c7 c8)
theorem E_pop {v : Value} (hd : decode y.2.1 pc = .ok (.pop, 1)) (hv : v.category = 1) (K : E y d k n (pc + 1) lv (st) h Q) : E y d k n pc lv (v :: st) h Q := by
  intro p l e R s m args below meth c H locs cells slots mc ms N0 B D ca tys ls c1 c2 c3 c4 c5 c6 c7 c8
  exact lv_pop c1.1 c1.2.1 hd (by rw [tv_cat]; exact hv) (K p l e R s m args below meth c H locs cells slots mc ms N0 B D ca tys ls c1 c2 c3 c4 c5 c6 c7 c8)
theorem E_dup2 {v w : Value} (hd : decode y.2.1 pc = .ok (.dup2, 1)) (hv : v.category = 1) (hw : w.category = 1) (K : E y d k n (pc + 1) lv (v :: w :: v :: w :: st) h Q) : E y d k n pc lv (v :: w :: st) h Q := by
  intro p l e R s m args below meth c H locs cells slots mc ms N0 B D ca tys ls c1 c2 c3 c4 c5 c6 c7 c8
  exact lv_dup2_11 c1.1 c1.2.1 hd (by rw [tv_cat]; exact hv) (by rw [tv_cat]; exact hw) (K p l e R s m args below meth c H locs cells slots mc ms N0 B D ca tys ls c1 c2 c3 c4 c5 c6 c7 c8)
theorem E_istore_n {i : Fin 4} {x : Int32} {lv' : List (Nat × Value)} (hd : decode y.2.1 pc = .ok (.istore_n i, 1)) (hn : (i : Nat) < y.2.2.1) (hl : ((i : Nat), Value.int x) :: lv.filter (fun q => !(q.1 == (i : Nat)) && !(q.1 + 1 == (i : Nat) && q.2.category == 2)) = lv') (K : E y d k n (pc + 1) lv' st h Q) : E y d k n pc lv (Value.int x :: st) h Q := by
  intro p l e R s m args below meth c H locs cells slots mc ms N0 B D ca tys ls c1 c2 c3 c4 c5 c6 c7 c8
  subst hl
  exact lv_istore_n c1.1 c1.2.1 hd rfl c8 hn (by rw [lm_filter]; rfl) (fun ls c8 => K p l e R s m args below meth c H locs cells slots mc ms N0 B D ca tys ls c1 c2 c3 c4 c5 c6 c7 c8)
theorem E_istore {i : Nat} {x : Int32} {lv' : List (Nat × Value)} (hd : decode y.2.1 pc = .ok (.istore i, 2)) (hn : i < y.2.2.1) (hl : (i, Value.int x) :: lv.filter (fun q => !(q.1 == i) && !(q.1 + 1 == i && q.2.category == 2)) = lv') (K : E y d k n (pc + 2) lv' st h Q) : E y d k n pc lv (Value.int x :: st) h Q := by
  intro p l e R s m args below meth c H locs cells slots mc ms N0 B D ca tys ls c1 c2 c3 c4 c5 c6 c7 c8
  subst hl
  exact lv_istore c1.1 c1.2.1 hd  c8 hn (by rw [lm_filter]; rfl) (fun ls c8 => K p l e R s m args below meth c H locs cells slots mc ms N0 B D ca tys ls c1 c2 c3 c4 c5 c6 c7 c8)
theorem E_lstore_n {i : Fin 4} {x : Int64} {lv' : List (Nat × Value)} (hd : decode y.2.1 pc = .ok (.lstore_n i, 1)) (hn : (i : Nat) + 1 < y.2.2.1) (hl : ((i : Nat), Value.long x) :: lv.filter (fun q => !(q.1 == (i : Nat)) && (!(q.1 == (i : Nat) + 1) && !(q.1 + 1 == (i : Nat) && q.2.category == 2))) = lv') (K : E y d k n (pc + 1) lv' st h Q) : E y d k n pc lv (Value.long x :: st) h Q := by
  intro p l e R s m args below meth c H locs cells slots mc ms N0 B D ca tys ls c1 c2 c3 c4 c5 c6 c7 c8
  subst hl
  exact lv_lstore_n c1.1 c1.2.1 hd rfl c8 hn (by rw [lm_filter2]; rfl) (fun ls c8 => K p l e R s m args below meth c H locs cells slots mc ms N0 B D ca tys ls c1 c2 c3 c4 c5 c6 c7 c8)
theorem E_lstore {i : Nat} {x : Int64} {lv' : List (Nat × Value)} (hd : decode y.2.1 pc = .ok (.lstore i, 2)) (hn : i + 1 < y.2.2.1) (hl : (i, Value.long x) :: lv.filter (fun q => !(q.1 == i) && (!(q.1 == i + 1) && !(q.1 + 1 == i && q.2.category == 2))) = lv') (K : E y d k n (pc + 2) lv' st h Q) : E y d k n pc lv (Value.long x :: st) h Q := by
  intro p l e R s m args below meth c H locs cells slots mc ms N0 B D ca tys ls c1 c2 c3 c4 c5 c6 c7 c8
  subst hl
  exact lv_lstore c1.1 c1.2.1 hd  c8 hn (by rw [lm_filter2]; rfl) (fun ls c8 => K p l e R s m args below meth c H locs cells slots mc ms N0 B D ca tys ls c1 c2 c3 c4 c5 c6 c7 c8)
theorem E_astore_n {i : Fin 4} {x : Nat} {lv' : List (Nat × Value)} (hd : decode y.2.1 pc = .ok (.astore_n i, 1)) (hn : (i : Nat) < y.2.2.1) (hl : ((i : Nat), Value.ref x) :: lv.filter (fun q => !(q.1 == (i : Nat)) && !(q.1 + 1 == (i : Nat) && q.2.category == 2)) = lv') (K : E y d k n (pc + 1) lv' st h Q) : E y d k n pc lv (Value.ref x :: st) h Q := by
  intro p l e R s m args below meth c H locs cells slots mc ms N0 B D ca tys ls c1 c2 c3 c4 c5 c6 c7 c8
  subst hl
  exact lv_astore_n c1.1 c1.2.1 hd rfl c8 hn (by rw [lm_filter]; rfl) (fun ls c8 => K p l e R s m args below meth c H locs cells slots mc ms N0 B D ca tys ls c1 c2 c3 c4 c5 c6 c7 c8)
theorem E_astore {i : Nat} {x : Nat} {lv' : List (Nat × Value)} (hd : decode y.2.1 pc = .ok (.astore i, 2)) (hn : i < y.2.2.1) (hl : (i, Value.ref x) :: lv.filter (fun q => !(q.1 == i) && !(q.1 + 1 == i && q.2.category == 2)) = lv') (K : E y d k n (pc + 2) lv' st h Q) : E y d k n pc lv (Value.ref x :: st) h Q := by
  intro p l e R s m args below meth c H locs cells slots mc ms N0 B D ca tys ls c1 c2 c3 c4 c5 c6 c7 c8
  subst hl
  exact lv_astore c1.1 c1.2.1 hd  c8 hn (by rw [lm_filter]; rfl) (fun ls c8 => K p l e R s m args below meth c H locs cells slots mc ms N0 B D ca tys ls c1 c2 c3 c4 c5 c6 c7 c8)
theorem E_astore_nN {i : Fin 4} {lv' : List (Nat × Value)} (hd : decode y.2.1 pc = .ok (.astore_n i, 1)) (hn : (i : Nat) < y.2.2.1) (hl : ((i : Nat), Value.null) :: lv.filter (fun q => !(q.1 == (i : Nat)) && !(q.1 + 1 == (i : Nat) && q.2.category == 2)) = lv') (K : E y d k n (pc + 1) lv' st h Q) : E y d k n pc lv (Value.null :: st) h Q := by
  intro p l e R s m args below meth c H locs cells slots mc ms N0 B D ca tys ls c1 c2 c3 c4 c5 c6 c7 c8
  subst hl
  exact lv_astore_nN c1.1 c1.2.1 hd rfl c8 hn (by rw [lm_filter]; rfl) (fun ls c8 => K p l e R s m args below meth c H locs cells slots mc ms N0 B D ca tys ls c1 c2 c3 c4 c5 c6 c7 c8)
theorem E_astoreN {i : Nat} {lv' : List (Nat × Value)} (hd : decode y.2.1 pc = .ok (.astore i, 2)) (hn : i < y.2.2.1) (hl : (i, Value.null) :: lv.filter (fun q => !(q.1 == i) && !(q.1 + 1 == i && q.2.category == 2)) = lv') (K : E y d k n (pc + 2) lv' st h Q) : E y d k n pc lv (Value.null :: st) h Q := by
  intro p l e R s m args below meth c H locs cells slots mc ms N0 B D ca tys ls c1 c2 c3 c4 c5 c6 c7 c8
  subst hl
  exact lv_astoreN c1.1 c1.2.1 hd  c8 hn (by rw [lm_filter]; rfl) (fun ls c8 => K p l e R s m args below meth c H locs cells slots mc ms N0 B D ca tys ls c1 c2 c3 c4 c5 c6 c7 c8)
theorem E_iinc {i : Nat} {z : Int} {x v : Int32} {lv' : List (Nat × Value)} (hd : decode y.2.1 pc = .ok (.iinc i z, 3)) (hg : lv.lookup i = some (.int x)) (hv : x + Int32.ofInt z = v) (hn : i < y.2.2.1) (hl : (i, Value.int v) :: lv.filter (fun q => !(q.1 == i) && !(q.1 + 1 == i && q.2.category == 2)) = lv') (K : E y d k n (pc + 3) lv' st h Q) : E y d k n pc lv st h Q := by
  intro p l e R s m args below meth c H locs cells slots mc ms N0 B D ca tys ls c1 c2 c3 c4 c5 c6 c7 c8
  subst hl
  have hg2 : ls[i]? = some (.val (.int x)) := lm_at c8 hg
  have c9 : lv_has ls y.2.2.1 ((i, .int x) :: lm (adr N0 B) lv) := ⟨c8.1, c8.2.1, fun q hq => by
    rcases List.mem_cons.mp hq with rfl | h9
    · exact hg2
    · exact c8.2.2 q h9⟩
  refine lv_iinc (k := 0) c1.1 c1.2.1 hd c9 rfl hv hn (lv' := lm (adr N0 B) ((i, Value.int v) :: lv.filter (fun q => !(q.1 == i) && !(q.1 + 1 == i && q.2.category == 2)))) ?_ (fun ls c8 => K p l e R s m args below meth c H locs cells slots mc ms N0 B D ca tys ls c1 c2 c3 c4 c5 c6 c7 c8)
  rw [List.filter_cons_of_neg (by simp), lm_filter]
  rfl
theorem E_if_eq {x : Int32} {off : Int} (tgt : Nat) (hd : decode y.2.1 pc = .ok (.ifCond .eq off, 3)) (ht : (pc : Int) + off = (tgt : Int)) (kt : x = 0 → E y d k n tgt lv st h Q) (kf : ¬ x = 0 → E y d k n (pc + 3) lv st h Q) : E y d k n pc lv (.int x :: st) h Q := by
  intro p l e R s m args below meth c H locs cells slots mc ms N0 B D ca tys ls c1 c2 c3 c4 c5 c6 c7 c8
  exact lv_if_eq c1.1 c1.2.1 hd ht (fun q => kt q p l e R s m args below meth c H locs cells slots mc ms N0 B D ca tys ls c1 c2 c3 c4 c5 c6 c7 c8) (fun q => kf q p l e R s m args below meth c H locs cells slots mc ms N0 B D ca tys ls c1 c2 c3 c4 c5 c6 c7 c8)
theorem E_icmp_eq {x y1 : Int32} {off : Int} (tgt : Nat) (hd : decode y.2.1 pc = .ok (.if_icmp .eq off, 3)) (ht : (pc : Int) + off = (tgt : Int)) (kt : x = y1 → E y d k n tgt lv st h Q) (kf : ¬ x = y1 → E y d k n (pc + 3) lv st h Q) : E y d k n pc lv (.int y1 :: .int x :: st) h Q := by
  intro p l e R s m args below meth c H locs cells slots mc ms N0 B D ca tys ls c1 c2 c3 c4 c5 c6 c7 c8
  exact lv_icmp_eq c1.1 c1.2.1 hd ht (fun q => kt q p l e R s m args below meth c H locs cells slots mc ms N0 B D ca tys ls c1 c2 c3 c4 c5 c6 c7 c8) (fun q => kf q p l e R s m args below meth c H locs cells slots mc ms N0 B D ca tys ls c1 c2 c3 c4 c5 c6 c7 c8)
theorem E_if_ne {x : Int32} {off : Int} (tgt : Nat) (hd : decode y.2.1 pc = .ok (.ifCond .ne off, 3)) (ht : (pc : Int) + off = (tgt : Int)) (kt : ¬ x = 0 → E y d k n tgt lv st h Q) (kf : x = 0 → E y d k n (pc + 3) lv st h Q) : E y d k n pc lv (.int x :: st) h Q := by
  intro p l e R s m args below meth c H locs cells slots mc ms N0 B D ca tys ls c1 c2 c3 c4 c5 c6 c7 c8
  exact lv_if_ne c1.1 c1.2.1 hd ht (fun q => kt q p l e R s m args below meth c H locs cells slots mc ms N0 B D ca tys ls c1 c2 c3 c4 c5 c6 c7 c8) (fun q => kf q p l e R s m args below meth c H locs cells slots mc ms N0 B D ca tys ls c1 c2 c3 c4 c5 c6 c7 c8)
theorem E_icmp_ne {x y1 : Int32} {off : Int} (tgt : Nat) (hd : decode y.2.1 pc = .ok (.if_icmp .ne off, 3)) (ht : (pc : Int) + off = (tgt : Int)) (kt : ¬ x = y1 → E y d k n tgt lv st h Q) (kf : x = y1 → E y d k n (pc + 3) lv st h Q) : E y d k n pc lv (.int y1 :: .int x :: st) h Q := by
  intro p l e R s m args below meth c H locs cells slots mc ms N0 B D ca tys ls c1 c2 c3 c4 c5 c6 c7 c8
  exact lv_icmp_ne c1.1 c1.2.1 hd ht (fun q => kt q p l e R s m args below meth c H locs cells slots mc ms N0 B D ca tys ls c1 c2 c3 c4 c5 c6 c7 c8) (fun q => kf q p l e R s m args below meth c H locs cells slots mc ms N0 B D ca tys ls c1 c2 c3 c4 c5 c6 c7 c8)
theorem E_if_lt {x : Int32} {off : Int} (tgt : Nat) (hd : decode y.2.1 pc = .ok (.ifCond .lt off, 3)) (ht : (pc : Int) + off = (tgt : Int)) (kt : x < 0 → E y d k n tgt lv st h Q) (kf : ¬ x < 0 → E y d k n (pc + 3) lv st h Q) : E y d k n pc lv (.int x :: st) h Q := by
  intro p l e R s m args below meth c H locs cells slots mc ms N0 B D ca tys ls c1 c2 c3 c4 c5 c6 c7 c8
  exact lv_if_lt c1.1 c1.2.1 hd ht (fun q => kt q p l e R s m args below meth c H locs cells slots mc ms N0 B D ca tys ls c1 c2 c3 c4 c5 c6 c7 c8) (fun q => kf q p l e R s m args below meth c H locs cells slots mc ms N0 B D ca tys ls c1 c2 c3 c4 c5 c6 c7 c8)
theorem E_icmp_lt {x y1 : Int32} {off : Int} (tgt : Nat) (hd : decode y.2.1 pc = .ok (.if_icmp .lt off, 3)) (ht : (pc : Int) + off = (tgt : Int)) (kt : x < y1 → E y d k n tgt lv st h Q) (kf : ¬ x < y1 → E y d k n (pc + 3) lv st h Q) : E y d k n pc lv (.int y1 :: .int x :: st) h Q := by
  intro p l e R s m args below meth c H locs cells slots mc ms N0 B D ca tys ls c1 c2 c3 c4 c5 c6 c7 c8
  exact lv_icmp_lt c1.1 c1.2.1 hd ht (fun q => kt q p l e R s m args below meth c H locs cells slots mc ms N0 B D ca tys ls c1 c2 c3 c4 c5 c6 c7 c8) (fun q => kf q p l e R s m args below meth c H locs cells slots mc ms N0 B D ca tys ls c1 c2 c3 c4 c5 c6 c7 c8)
theorem E_if_ge {x : Int32} {off : Int} (tgt : Nat) (hd : decode y.2.1 pc = .ok (.ifCond .ge off, 3)) (ht : (pc : Int) + off = (tgt : Int)) (kt : 0 ≤ x → E y d k n tgt lv st h Q) (kf : ¬ 0 ≤ x → E y d k n (pc + 3) lv st h Q) : E y d k n pc lv (.int x :: st) h Q := by
  intro p l e R s m args below meth c H locs cells slots mc ms N0 B D ca tys ls c1 c2 c3 c4 c5 c6 c7 c8
  exact lv_if_ge c1.1 c1.2.1 hd ht (fun q => kt q p l e R s m args below meth c H locs cells slots mc ms N0 B D ca tys ls c1 c2 c3 c4 c5 c6 c7 c8) (fun q => kf q p l e R s m args below meth c H locs cells slots mc ms N0 B D ca tys ls c1 c2 c3 c4 c5 c6 c7 c8)
theorem E_icmp_ge {x y1 : Int32} {off : Int} (tgt : Nat) (hd : decode y.2.1 pc = .ok (.if_icmp .ge off, 3)) (ht : (pc : Int) + off = (tgt : Int)) (kt : y1 ≤ x → E y d k n tgt lv st h Q) (kf : ¬ y1 ≤ x → E y d k n (pc + 3) lv st h Q) : E y d k n pc lv (.int y1 :: .int x :: st) h Q := by
  intro p l e R s m args below meth c H locs cells slots mc ms N0 B D ca tys ls c1 c2 c3 c4 c5 c6 c7 c8
  exact lv_icmp_ge c1.1 c1.2.1 hd ht (fun q => kt q p l e R s m args below meth c H locs cells slots mc ms N0 B D ca tys ls c1 c2 c3 c4 c5 c6 c7 c8) (fun q => kf q p l e R s m args below meth c H locs cells slots mc ms N0 B D ca tys ls c1 c2 c3 c4 c5 c6 c7 c8)
theorem E_if_gt {x : Int32} {off : Int} (tgt : Nat) (hd : decode y.2.1 pc = .ok (.ifCond .gt off, 3)) (ht : (pc : Int) + off = (tgt : Int)) (kt : 0 < x → E y d k n tgt lv st h Q) (kf : ¬ 0 < x → E y d k n (pc + 3) lv st h Q) : E y d k n pc lv (.int x :: st) h Q := by
  intro p l e R s m args below meth c H locs cells slots mc ms N0 B D ca tys ls c1 c2 c3 c4 c5 c6 c7 c8
  exact lv_if_gt c1.1 c1.2.1 hd ht (fun q => kt q p l e R s m args below meth c H locs cells slots mc ms N0 B D ca tys ls c1 c2 c3 c4 c5 c6 c7 c8) (fun q => kf q p l e R s m args below meth c H locs cells slots mc ms N0 B D ca tys ls c1 c2 c3 c4 c5 c6 c7 c8)
theorem E_icmp_gt {x y1 : Int32} {off : Int} (tgt : Nat) (hd : decode y.2.1 pc = .ok (.if_icmp .gt off, 3)) (ht : (pc : Int) + off = (tgt : Int)) (kt : y1 < x → E y d k n tgt lv st h Q) (kf : ¬ y1 < x → E y d k n (pc + 3) lv st h Q) : E y d k n pc lv (.int y1 :: .int x :: st) h Q := by
  intro p l e R s m args below meth c H locs cells slots mc ms N0 B D ca tys ls c1 c2 c3 c4 c5 c6 c7 c8
  exact lv_icmp_gt c1.1 c1.2.1 hd ht (fun q => kt q p l e R s m args below meth c H locs cells slots mc ms N0 B D ca tys ls c1 c2 c3 c4 c5 c6 c7 c8) (fun q => kf q p l e R s m args below meth c H locs cells slots mc ms N0 B D ca tys ls c1 c2 c3 c4 c5 c6 c7 c8)
theorem E_if_le {x : Int32} {off : Int} (tgt : Nat) (hd : decode y.2.1 pc = .ok (.ifCond .le off, 3)) (ht : (pc : Int) + off = (tgt : Int)) (kt : x ≤ 0 → E y d k n tgt lv st h Q) (kf : ¬ x ≤ 0 → E y d k n (pc + 3) lv st h Q) : E y d k n pc lv (.int x :: st) h Q := by
  intro p l e R s m args below meth c H locs cells slots mc ms N0 B D ca tys ls c1 c2 c3 c4 c5 c6 c7 c8
  exact lv_if_le c1.1 c1.2.1 hd ht (fun q => kt q p l e R s m args below meth c H locs cells slots mc ms N0 B D ca tys ls c1 c2 c3 c4 c5 c6 c7 c8) (fun q => kf q p l e R s m args below meth c H locs cells slots mc ms N0 B D ca tys ls c1 c2 c3 c4 c5 c6 c7 c8)
theorem E_icmp_le {x y1 : Int32} {off : Int} (tgt : Nat) (hd : decode y.2.1 pc = .ok (.if_icmp .le off, 3)) (ht : (pc : Int) + off = (tgt : Int)) (kt : x ≤ y1 → E y d k n tgt lv st h Q) (kf : ¬ x ≤ y1 → E y d k n (pc + 3) lv st h Q) : E y d k n pc lv (.int y1 :: .int x :: st) h Q := by
  intro p l e R s m args below meth c H locs cells slots mc ms N0 B D ca tys ls c1 c2 c3 c4 c5 c6 c7 c8
  exact lv_icmp_le c1.1 c1.2.1 hd ht (fun q => kt q p l e R s m args below meth c H locs cells slots mc ms N0 B D ca tys ls c1 c2 c3 c4 c5 c6 c7 c8) (fun q => kf q p l e R s m args below meth c H locs cells slots mc ms N0 B D ca tys ls c1 c2 c3 c4 c5 c6 c7 c8)
theorem E_goto {off : Int} (tgt : Nat) (hd : decode y.2.1 pc = .ok (.goto off, 3)) (ht : (pc : Int) + off = (tgt : Int)) (K : E y d k n tgt lv st h Q) : E y d k n pc lv st h Q := by
  intro p l e R s m args below meth c H locs cells slots mc ms N0 B D ca tys ls c1 c2 c3 c4 c5 c6 c7 c8
  exact lv_goto c1.1 c1.2.1 hd ht (K p l e R s m args below meth c H locs cells slots mc ms N0 B D ca tys ls c1 c2 c3 c4 c5 c6 c7 c8)
theorem E_nonnull {x : Nat} {off : Int} (tgt : Nat) (hd : decode y.2.1 pc = .ok (.ifnonnull off, 3)) (ht : (pc : Int) + off = (tgt : Int)) (K : E y d k n tgt lv st h Q) : E y d k n pc lv (.ref x :: st) h Q := by
  intro p l e R s m args below meth c H locs cells slots mc ms N0 B D ca tys ls c1 c2 c3 c4 c5 c6 c7 c8
  exact lv_ifnonnull c1.1 c1.2.1 hd ht (K p l e R s m args below meth c H locs cells slots mc ms N0 B D ca tys ls c1 c2 c3 c4 c5 c6 c7 c8)
theorem E_nonnullN {off : Int} (hd : decode y.2.1 pc = .ok (.ifnonnull off, 3)) (K : E y d k n (pc + 3) lv st h Q) : E y d k n pc lv (.null :: st) h Q := by
  intro p l e R s m args below meth c H locs cells slots mc ms N0 B D ca tys ls c1 c2 c3 c4 c5 c6 c7 c8
  exact lv_ifnonnullN c1.1 c1.2.1 hd (K p l e R s m args below meth c H locs cells slots mc ms N0 B D ca tys ls c1 c2 c3 c4 c5 c6 c7 c8)
theorem E_ifnull {x : Nat} {off : Int} (hd : decode y.2.1 pc = .ok (.ifnull off, 3)) (K : E y d k n (pc + 3) lv st h Q) : E y d k n pc lv (.ref x :: st) h Q := by
  intro p l e R s m args below meth c H locs cells slots mc ms N0 B D ca tys ls c1 c2 c3 c4 c5 c6 c7 c8
  exact lv_ifnull c1.1 c1.2.1 hd (K p l e R s m args below meth c H locs cells slots mc ms N0 B D ca tys ls c1 c2 c3 c4 c5 c6 c7 c8)
theorem E_ifnullN {off : Int} (tgt : Nat) (hd : decode y.2.1 pc = .ok (.ifnull off, 3)) (ht : (pc : Int) + off = (tgt : Int)) (K : E y d k n tgt lv st h Q) : E y d k n pc lv (.null :: st) h Q := by
  intro p l e R s m args below meth c H locs cells slots mc ms N0 B D ca tys ls c1 c2 c3 c4 c5 c6 c7 c8
  exact lv_ifnullN c1.1 c1.2.1 hd ht (K p l e R s m args below meth c H locs cells slots mc ms N0 B D ca tys ls c1 c2 c3 c4 c5 c6 c7 c8)
theorem E_tableOut {dflt lo hi : Int} {offs : Array Int} {len : Nat} {x : Int32} (tgt : Nat) (hd : decode y.2.1 pc = .ok (.tableswitch dflt lo hi offs, len)) (hx : x.toInt < lo ∨ hi < x.toInt) (ht : (pc : Int) + dflt = (tgt : Int)) (K : E y d k n tgt lv st h Q) : E y d k n pc lv (.int x :: st) h Q := by
  intro p l e R s m args below meth c H locs cells slots mc ms N0 B D ca tys ls c1 c2 c3 c4 c5 c6 c7 c8
  exact lv_tableOut c1.1 c1.2.1 hd hx ht (K p l e R s m args below meth c H locs cells slots mc ms N0 B D ca tys ls c1 c2 c3 c4 c5 c6 c7 c8)
theorem E_tableIn {dflt lo hi : Int} {offs : Array Int} {len : Nat} {x : Int32} {off : Int} (tgt : Nat) (hd : decode y.2.1 pc = .ok (.tableswitch dflt lo hi offs, len)) (h1 : ¬ x.toInt < lo) (h2 : ¬ hi < x.toInt) (ho : offs[(x.toInt - lo).toNat]? = some off) (ht : (pc : Int) + off = (tgt : Int)) (K : E y d k n tgt lv st h Q) : E y d k n pc lv (.int x :: st) h Q := by
  intro p l e R s m args below meth c H locs cells slots mc ms N0 B D ca tys ls c1 c2 c3 c4 c5 c6 c7 c8
  exact lv_tableIn c1.1 c1.2.1 hd h1 h2 ho ht (K p l e R s m args below meth c H locs cells slots mc ms N0 B D ca tys ls c1 c2 c3 c4 c5 c6 c7 c8)
theorem E_ldc {idx : Nat} {v : Int32} (hd : decode y.2.1 pc = .ok (.ldc idx, 2)) (hc : Cond.constant y.1.cls idx v ∈ GT) (K : E y d k n (pc + 2) lv (.int v :: st) h Q) : E y d k n pc lv st h Q := by
  intro p l e R s m args below meth c H locs cells slots mc ms N0 B D ca tys ls c1 c2 c3 c4 c5 c6 c7 c8
  exact lv_ldc c1.1 c1.2.1 c1.2.2.2.2.1 (c1.2.2.2.2.2.1 _ hc) hd (K p l e R s m args below meth c H locs cells slots mc ms N0 B D ca tys ls c1 c2 c3 c4 c5 c6 c7 c8)
theorem E_ldc2 {idx : Nat} {v : Int64} (hd : decode y.2.1 pc = .ok (.ldc2_w idx, 3)) (hc : Cond.constantLong y.1.cls idx v ∈ GT) (K : E y d k n (pc + 3) lv (.long v :: st) h Q) : E y d k n pc lv st h Q := by
  intro p l e R s m args below meth c H locs cells slots mc ms N0 B D ca tys ls c1 c2 c3 c4 c5 c6 c7 c8
  exact lv_ldc2 c1.1 c1.2.1 c1.2.2.2.2.1 (c1.2.2.2.2.2.1 _ hc) hd (K p l e R s m args below meth c H locs cells slots mc ms N0 B D ca tys ls c1 c2 c3 c4 c5 c6 c7 c8)
theorem E_iret {v : Int32} {ty : FieldType} (hd : decode y.2.1 pc = .ok (.ireturn, 1)) (hr : y.2.2.2 = some ty) (hn : narrow ty (.int v) = .int v) (K : Q (some (Value.int v)) h) : E y d k n pc lv ([.int v]) h Q := by
  intro p l e R s m args below meth c H locs cells slots mc ms N0 B D ca tys ls c1 c2 c3 c4 c5 c6 c7 c8
  have hq : ∀ t : State, t.heap = H → s.WarmedH t.vm → EQ N0 B D Q args s (.returned ((some (Value.int v)).map (tv (adr N0 B)))) t := fun t ht hW => ⟨(some (Value.int v)), h, ca, tys, rfl, K, by rw [ht]; exact c7.moved hW.alike, c6.F ht⟩
  refine W.widen (k := mc) (n := ms) (by omega) (by omega) ?_
  exact W.zret (hlocks := c1.2.2.2.2.2.2.1) c1.1 c1.2.1 (c1.2.2.1.trans hr) hn hq c6.2.2 hd
theorem E_lret {v : Int64} (hd : decode y.2.1 pc = .ok (.lreturn, 1)) (hr : y.2.2.2 = some .long)  (K : Q (some (Value.long v)) h) : E y d k n pc lv ([.long v]) h Q := by
  intro p l e R s m args below meth c H locs cells slots mc ms N0 B D ca tys ls c1 c2 c3 c4 c5 c6 c7 c8
  have hq : ∀ t : State, t.heap = H → s.WarmedH t.vm → EQ N0 B D Q args s (.returned ((some (Value.long v)).map (tv (adr N0 B)))) t := fun t ht hW => ⟨(some (Value.long v)), h, ca, tys, rfl, K, by rw [ht]; exact c7.moved hW.alike, c6.F ht⟩
  refine W.widen (k := mc) (n := ms) (by omega) (by omega) ?_
  exact W.lret (hlocks := c1.2.2.2.2.2.2.1) c1.1 c1.2.1 (c1.2.2.1.trans hr) hq c6.2.2 hd
theorem E_vret  (hd : decode y.2.1 pc = .ok (.return_, 1)) (hr : y.2.2.2 = none)  (K : Q (none : Option Value) h) : E y d k n pc lv ([]) h Q := by
  intro p l e R s m args below meth c H locs cells slots mc ms N0 B D ca tys ls c1 c2 c3 c4 c5 c6 c7 c8
  have hq : ∀ t : State, t.heap = H → s.WarmedH t.vm → EQ N0 B D Q args s (.returned ((none : Option Value).map (tv (adr N0 B)))) t := fun t ht hW => ⟨(none : Option Value), h, ca, tys, rfl, K, by rw [ht]; exact c7.moved hW.alike, c6.F ht⟩
  refine W.widen (k := mc) (n := ms) (by omega) (by omega) ?_
  exact W.vret (hlocks := c1.2.2.2.2.2.2.1) c1.1 c1.2.1 (c1.2.2.1.trans hr) hq c6.2.2 hd
theorem E_aret {v : Nat} {rt : FieldType} (hd : decode y.2.1 pc = .ok (.areturn, 1)) (hr : y.2.2.2 = some rt) (hrt : (∃ nm, rt = .object nm) ∨ ∃ t, rt = .array t) (K : Q (some (Value.ref v)) h) : E y d k n pc lv ([.ref v]) h Q := by
  intro p l e R s m args below meth c H locs cells slots mc ms N0 B D ca tys ls c1 c2 c3 c4 c5 c6 c7 c8
  have hq : ∀ t : State, t.heap = H → s.WarmedH t.vm → EQ N0 B D Q args s (.returned ((some (Value.ref v)).map (tv (adr N0 B)))) t := fun t ht hW => ⟨(some (Value.ref v)), h, ca, tys, rfl, K, by rw [ht]; exact c7.moved hW.alike, c6.F ht⟩
  refine W.widen (k := mc) (n := ms) (by omega) (by omega) ?_
  exact W.aret (hlocks := c1.2.2.2.2.2.2.1) c1.1 c1.2.1 (c1.2.2.1.trans hr) hrt (Or.inr ⟨_, rfl⟩) hq c6.2.2 hd
theorem E_aretN {rt : FieldType} (hd : decode y.2.1 pc = .ok (.areturn, 1)) (hr : y.2.2.2 = some rt) (hrt : (∃ nm, rt = .object nm) ∨ ∃ t, rt = .array t) (K : Q (some Value.null) h) : E y d k n pc lv ([.null]) h Q := by
  intro p l e R s m args below meth c H locs cells slots mc ms N0 B D ca tys ls c1 c2 c3 c4 c5 c6 c7 c8
  have hq : ∀ t : State, t.heap = H → s.WarmedH t.vm → EQ N0 B D Q args s (.returned ((some Value.null).map (tv (adr N0 B)))) t := fun t ht hW => ⟨(some Value.null), h, ca, tys, rfl, K, by rw [ht]; exact c7.moved hW.alike, c6.F ht⟩
  refine W.widen (k := mc) (n := ms) (by omega) (by omega) ?_
  exact W.aret (hlocks := c1.2.2.2.2.2.2.1) c1.1 c1.2.1 (c1.2.2.1.trans hr) hrt (Or.inl rfl) hq c6.2.2 hd
end ER
end
section
/-! THE HEAP'S RULES: fields, arrays, new cells -/
section EH
variable {y : MI} {d k n pc : Nat} {lv : List (Nat × Value)} {st : List Value} {h : HP} {Q : Option Value → HP → Prop}
theorem HI.set {N0 : Nat} {B : Nat → Nat} {D : va_G} {ca : Nat → ClassId} {tys : List (ClassId × FieldType)} {h : HP} {U : State} {H H1 : Heap} {i : Nat} {c0 c : PCell} (hI : HI N0 B D ca tys h U H) (hi : 3 ≤ i) (hc : h[i]? = some c0) (hat : va_at D CL (adr N0 B i, te (adr N0 B) (ca i) c) H1) (hz : H1.size = H.size) (oq : ∀ q, q ≠ adr N0 B i → H1[q]? = H[q]?) (hk : ∀ (k : Nat) (x : vp_A), c = .inl (k, x) → ∃ x0, c0 = .inl (k, x0)) : HI N0 B D ca tys (h.set i c) U H1 := by
  obtain ⟨h1, h2, h3, h4, h5, h6⟩ := hI
  refine ⟨h1, ?_, by rw [hz, List.length_set]; exact h3, by rw [List.length_set]; exact h4, fun j k' x hj h3' => ?_, h6.kept (fun j hj => ?_) (fun a ha hn => oq a (fun e => hn ?_))⟩
  · rw [← wd_set hi]
    exact h2.set wd_D (wd_get hi hc) hat oq
  · by_cases hij : i = j
    · subst hij
      rw [List.getElem?_set_self (List.getElem?_eq_some_iff.mp hc).1] at hj
      obtain ⟨x0, e0⟩ := hk k' x (Option.some.inj hj)
      exact h5 i k' x0 (by rw [hc, e0]) hi
    · rw [List.getElem?_set_ne hij] at hj
      exact h5 j k' x hj h3'
  · rw [List.getElem?_set_ne (by omega)]
  · rw [e, adr_ge hi]
    exact Nat.le_add_right _ _
theorem HI.push {N0 : Nat} {B : Nat → Nat} {D : va_G} {ca : Nat → ClassId} {tys tys' : List (ClassId × FieldType)} {h : HP} {U : State} {H H1 : Heap} {c : PCell} {cA : ClassId} (hI : HI N0 B D ca tys h U H) (hat : va_at D CL (H.size, te (adr N0 B) cA c) H1) (hz : H1.size = H.size + 1) (oq : ∀ q, q < H.size → H1[q]? = H[q]?) (hK : va_K D CL tys' U) (hsub : ∀ (t : Nat) (x : ClassId × FieldType), tys[t]? = some x → tys'[t]? = some x) (hk : ∀ (k : Nat) (x : vp_A), c = .inl (k, x) → k < 5 ∧ ∃ t : Nat, tys'[t]? = some (cA, kty k)) : HI N0 B D (fun j => if j = h.length then cA else ca j) tys' (h ++ [c]) U H1 := by
  obtain ⟨h1, h2, h3, h4, h5, h6⟩ := hI
  have hsz : N0 + (h.length - 3) = H.size := by omega
  refine ⟨hK, ?_, by rw [hz, List.length_append]; simp; omega, by rw [List.length_append]; omega, fun j k' x hj h3' => ?_, h6.kept (fun j hj => ?_) (fun a ha hn => oq a ha)⟩
  · rw [wd_push (ca := ca) h4 (fun i hi => if_neg (by omega)), if_pos rfl, hsz]
    refine (h2.kept fun j q hq => oq q.1 (h2 j q hq).lt).app (fun j q hq => ?_)
    have hz : j < 1 := (List.getElem?_eq_some_iff.mp hq).1
    rw [show j = 0 by omega] at hq
    cases hq
    exact hat
  · by_cases hl : j < h.length
    · rw [List.getElem?_append_left hl] at hj
      obtain ⟨a, t, b⟩ := h5 j k' x hj h3'
      dsimp only
      rw [if_neg (by omega)]
      exact ⟨a, t, hsub t _ b⟩
    · rw [List.getElem?_append_right (by omega)] at hj
      have hz : j - h.length < 1 := (List.getElem?_eq_some_iff.mp hj).1
      have hjl : j = h.length := by omega
      subst hjl
      rw [Nat.sub_self] at hj
      dsimp only
      rw [if_pos rfl]
      exact hk k' x (Option.some.inj hj)
  · rw [List.getElem?_append_left (by omega)]
theorem adr_new {N0 : Nat} {B : Nat → Nat} {D : va_G} {ca : Nat → ClassId} {tys : List (ClassId × FieldType)} {h : HP} {U : State} {H : Heap} (hI : HI N0 B D ca tys h U H) : adr N0 B h.length = H.size := by
  obtain ⟨-, -, h3, h4, -⟩ := hI
  rw [adr_ge h4]
  omega
/-- the links of a field, by class of the method, entry, class number, slot -/
def okF (own : String) (idx ci j : Nat) : Prop := ∃ (C : String) (T : u_T) (N : Nat), CL[ci]? = some (C, T, N) ∧ j < N ∧ (∀ w ∈ u_ws C T N, w ∈ GT) ∧ Cond.fieldLink own idx (T j).1 (T j).2.1 (T j).2.2.1 ∈ GT
def okC (ci : Nat) (ty : Nat → FieldType) : Prop := ∀ (C : String) (T : u_T) (N : Nat), CL[ci]? = some (C, T, N) → (∀ a, a < N → ∀ b, b < N → a ≠ b → (T a).2.1 ≠ (T b).2.1) ∧ ∀ a, a < N → parseFieldDescriptor (T a).2.2.1 = some (ty a)
def okN (own : String) (idx ci j : Nat) : Prop := ∃ (C : String) (T : u_T) (N : Nat) (host : String), CL[ci]? = some (C, T, N) ∧ j < N ∧ (∀ w ∈ u_ws C T N, w ∈ GT) ∧ Cond.fieldLinkNest own idx (T j).1 (T j).2.1 (T j).2.2.1 host ∈ lw_tbl
def okP (own : String) (idx ci j : Nat) (ty : FieldType) (fin : Bool) : Prop := ∃ (C : String) (T : u_T) (N : Nat) (ty0 : Nat → FieldType), CL[ci]? = some (C, T, N) ∧ j < N ∧ (∀ w ∈ u_ws C T N, w ∈ GT) ∧ Cond.fieldLink own idx (T j).1 (T j).2.1 (T j).2.2.1 ∈ GT ∧ okC ci ty0 ∧ ty0 j = ty ∧ (T j).2.2.2 = fin ∧ (fin = true → (T j).1 = own)
theorem E_getf {idx ci i : Nat} {fs : List Value} {v : Value} (j : Nat) (hd : decode y.2.1 pc = .ok (.getfield idx, 3)) (ok : okF y.1.cls idx ci j) (hi : 3 ≤ i) (hh : h[i]? = some (.inr (ci, fs))) (hv : fs[j]? = some v) (K : E y d k n (pc + 3) lv (v :: st) h Q) : E y d k n pc lv (.ref i :: st) h Q := by
  intro p l e R s m args below meth c H locs cells slots mc ms N0 B D ca tys ls c1 c2 c3 c4 c5 c6 c7 c8
  obtain ⟨C, T, N, a1, a2, a3, a4⟩ := ok
  exact va_get (v := tv (adr N0 B) v) c1.1 c1.2.1 c1.2.2.2.2.2.1 a3 c1.2.2.2.2.1 c7.1 c7.2.1 (i - 3) (wd_get hi hh) a1 j a2 (c1.2.2.2.2.2.1 _ a4) (fun _ h9 => h9) (by simp [List.getElem?_map, hv]) hd (K p l e R s m args below meth c H locs cells slots mc ms N0 B D ca tys ls c1 c2 c3 c4 c5 c6 c7 c8)
theorem E_getN {idx ci i : Nat} {fs : List Value} {v : Value} (j : Nat) (hd : decode y.2.1 pc = .ok (.getfield idx, 3)) (ok : okN y.1.cls idx ci j) (hi : 3 ≤ i) (hh : h[i]? = some (.inr (ci, fs))) (hv : fs[j]? = some v) (K : E y d k n (pc + 3) lv (v :: st) h Q) : E y d k n pc lv (.ref i :: st) h Q := by
  intro p l e R s m args below meth c H locs cells slots mc ms N0 B D ca tys ls c1 c2 c3 c4 c5 c6 c7 c8
  obtain ⟨C, T, N, host, a1, a2, a3, a4⟩ := ok
  exact va_getN (v := tv (adr N0 B) v) c1.1 c1.2.1 c1.2.2.2.2.2.1 a3 c1.2.2.2.2.1 c7.1 c7.2.1 (i - 3) (wd_get hi hh) a1 j a2 (va_Nw.use rfl (c1.2.2.2.2.2.2.2.2.2.1 _ _ _ _ _ _ a4)) (fun _ h9 => h9) (by simp [List.getElem?_map, hv]) hd (K p l e R s m args below meth c H locs cells slots mc ms N0 B D ca tys ls c1 c2 c3 c4 c5 c6 c7 c8)
/-- a value that may lie in a field or an array of this type -/
def fitsV (ty : FieldType) (v : Value) : Prop := ∀ a : Nat → Nat, narrow ty (tv a v) = tv a v ∧ fits ty (tv a v) = true
theorem fitsV_int (x : Int32) : fitsV .int (.int x) := fun _ => ⟨rfl, rfl⟩
theorem fitsV_obj (C : String) (x : Nat) : fitsV (.object C) (.ref x) := fun _ => ⟨rfl, rfl⟩
theorem fitsV_objN (C : String) : fitsV (.object C) .null := fun _ => ⟨rfl, rfl⟩
theorem fitsV_arr (t : FieldType) (x : Nat) : fitsV (.array t) (.ref x) := fun _ => ⟨rfl, rfl⟩
theorem E_put {idx ci i : Nat} {fs : List Value} {v : Value} (j : Nat) {ty : FieldType} (hd : decode y.2.1 pc = .ok (.putfield idx, 3)) (ok : okP y.1.cls idx ci j ty false) (hf : fitsV ty v) (hi : 3 ≤ i) (hh : h[i]? = some (.inr (ci, fs))) (hl : j < fs.length) (K : E y d k n (pc + 3) lv st (h.set i (.inr (ci, fs.set j v))) Q) : E y d k n pc lv (v :: .ref i :: st) h Q := by
  intro p l e R s m args below meth c H locs cells slots mc ms N0 B D ca tys ls c1 c2 c3 c4 c5 c6 c7 c8
  obtain ⟨C, T, N, ty0, hc, hk, hin, hlink, hC, hty, hfin, -⟩ := ok
  obtain ⟨hnm, hty0⟩ := hC C T N hc
  have hts := c1.2.2.2.2.2.1
  have hK := c7.1
  have hap := va_apart (own := y.1.cls) hts hin ty0 hty0 hnm hK hc
  obtain ⟨r, h1, cell, q1, q2, q3, q4⟩ := c7.2.1 (i - 3) _ (wd_get hi hh)
  have hr : r = (C, T, N) := Option.some.inj (h1.symm.trans hc)
  subst hr
  obtain ⟨hS, hfc, kC, hkC, hkind⟩ := hK.1 ci _ hc
  obtain ⟨cf, kf, fi, f, hfi, hsl⟩ := hS j hk
  have hlay := hts _ (hin _ (u_in_lay hk))
  unfold u_lay at hlay
  rw [if_neg (by rw [hfin]; decide)] at hlay
  have hst := (u_facts hfc hkC (u_lays hts hin hk) hfi).1
  have h6 := u_store hfc hkC hkind hlay hfi (hty ▸ hty0 j hk) (hf (adr N0 B)).1 (hf (adr N0 B)).2
  refine W.putK c1.1 c1.2.1 (f := f) ⟨c1.2.2.2.2.1, hts _ hlink, ⟨_, _, _, hfi⟩, hst⟩ (by rw [q2]; exact h6) q1 q3 (by rw [hsl]; exact k2_hasslot (q4 j hk)) rfl rfl hd fun H' e1 e2 e3 => ?_
  rw [hsl] at e1 ⊢
  have hat : va_at D CL (adr N0 B i, te (adr N0 B) (ca i) (.inr (ci, fs.set j v))) H' := by
    refine ⟨_, hc, t_OB.to (V := updV (vp_V (fs.map (tv (adr N0 B)))) j (tv (adr N0 B) v)) ⟨_, e1, q2, q3, t_set q4 hap hk _⟩ (fun x _ => ?_)⟩
    rw [vp_updV_set (by simpa using hl), List.map_set]
  exact K p l e R s m args below meth c H' _ cells slots mc ms N0 B D ca tys ls c1 c2 c3 c4 c5 (c6.put e2 e3 (by rw [adr_ge hi]; exact Nat.le_add_right _ _)) (c7.set hi hh hat e2 e3 (fun k' x e => by cases e)) c8
theorem E_putF {idx ci i : Nat} {fs : List Value} {v : Value} (j : Nat) {ty : FieldType} (hd : decode y.2.1 pc = .ok (.putfield idx, 3)) (ok : okP y.1.cls idx ci j ty true) (hy : y.1.name = "<init>") (hf : fitsV ty v) (hi : 3 ≤ i) (hh : h[i]? = some (.inr (ci, fs))) (hl : j < fs.length) (K : E y d k n (pc + 3) lv st (h.set i (.inr (ci, fs.set j v))) Q) : E y d k n pc lv (v :: .ref i :: st) h Q := by
  intro p l e R s m args below meth c H locs cells slots mc ms N0 B D ca tys ls c1 c2 c3 c4 c5 c6 c7 c8
  obtain ⟨C, T, N, ty0, hc, hk, hin, hlink, hC, hty, hfin, hdecl⟩ := ok
  obtain ⟨hnm, hty0⟩ := hC C T N hc
  have hts := c1.2.2.2.2.2.1
  have hK := c7.1
  have hap := va_apart (own := y.1.cls) hts hin ty0 hty0 hnm hK hc
  obtain ⟨r, h1, cell, q1, q2, q3, q4⟩ := c7.2.1 (i - 3) _ (wd_get hi hh)
  have hr : r = (C, T, N) := Option.some.inj (h1.symm.trans hc)
  subst hr
  obtain ⟨hS, hfc, kC, hkC, hkind⟩ := hK.1 ci _ hc
  obtain ⟨cf, kf, fi, f, hfi, hsl⟩ := hS j hk
  have hlay := hts _ (hin _ (u_in_lay hk))
  unfold u_lay at hlay
  rw [if_pos hfin] at hlay
  have hst := (u_facts hfc hkC (u_lays hts hin hk) hfi).1
  have hcf : m.cls = cf := by
    obtain ⟨_, _, c', _, _, _, -, -, hf', -, -, -, hown2, -⟩ := Cond.laysFinal_spec hlay
    have e1 : c' = cf := by have := hfi.symm.trans hf'; simp at this; exact this.1.symm
    rw [hdecl rfl] at hown2
    rw [← e1]; exact Option.some.inj (c1.2.2.2.2.1.symm.trans hown2)
  have h6 := u_fits hfc hkC hkind (Or.inr hlay) hfi (hty ▸ hty0 j hk) (hf (adr N0 B)).1 (hf (adr N0 B)).2
  refine W.putFinK c1.1 c1.2.1 c1.2.2.2.2.1 (hts _ hlink) hfi hst hcf (c1.2.2.2.2.2.2.2.1.trans hy) (by rw [q2]; exact h6) q1 q3 (by rw [hsl]; exact k2_hasslot (q4 j hk)) rfl rfl hd fun H' e1 e2 e3 => ?_
  rw [hsl] at e1 ⊢
  have hat : va_at D CL (adr N0 B i, te (adr N0 B) (ca i) (.inr (ci, fs.set j v))) H' := by
    refine ⟨_, hc, t_OB.to (V := updV (vp_V (fs.map (tv (adr N0 B)))) j (tv (adr N0 B) v)) ⟨_, e1, q2, q3, t_set q4 hap hk _⟩ (fun x _ => ?_)⟩
    rw [vp_updV_set (by simpa using hl), List.map_set]
  exact K p l e R s m args below meth c H' _ cells slots mc ms N0 B D ca tys ls c1 c2 c3 c4 c5 (c6.put e2 e3 (by rw [adr_ge hi]; exact Nat.le_add_right _ _)) (c7.set hi hh hat e2 e3 (fun k' x e => by cases e)) c8
end EH
end
section
/-! ARRAYS AND NEW CELLS: generated by wip/tools/genarr.py -/
section EA
variable {y : MI} {d k n pc : Nat} {lv : List (Nat × Value)} {st : List Value} {h : HP} {Q : Option Value → HP → Prop}
theorem E_iald {i nn : Nat} {f : Nat → Int32} {x : Int32} (hd : decode y.2.1 pc = .ok (.iaload, 1)) (hi : 3 ≤ i) (hh : h[i]? = some (.inl (0, nn, .inl f))) (hx : vp_in x nn) (K : E y d k n (pc + 1) lv (.int (f x.toNatClampNeg) :: st) h Q) : E y d k n pc lv (.int x :: .ref i :: st) h Q := by
  intro p l e R s m args below meth c H locs cells slots mc ms N0 B D ca tys ls c1 c2 c3 c4 c5 c6 c7 c8
  obtain ⟨-, t, ht⟩ := c7.2.2.2.2.1 i _ _ hh hi
  exact va_iald c1.1 c1.2.1 c7.1 c7.2.1 (i - 3) t (wd_get hi hh) ht hx hd (K p l e R s m args below meth c H locs cells slots mc ms N0 B D ca tys ls c1 c2 c3 c4 c5 c6 c7 c8)
theorem E_zald {i nn : Nat} {f : Nat → Int32} {x : Int32} (hd : decode y.2.1 pc = .ok (.baload, 1)) (hi : 3 ≤ i) (hh : h[i]? = some (.inl (1, nn, .inl f))) (hx : vp_in x nn) (K : E y d k n (pc + 1) lv (.int (f x.toNatClampNeg) :: st) h Q) : E y d k n pc lv (.int x :: .ref i :: st) h Q := by
  intro p l e R s m args below meth c H locs cells slots mc ms N0 B D ca tys ls c1 c2 c3 c4 c5 c6 c7 c8
  obtain ⟨-, t, ht⟩ := c7.2.2.2.2.1 i _ _ hh hi
  exact va_zald c1.1 c1.2.1 c7.1 c7.2.1 (i - 3) t (wd_get hi hh) ht hx hd (K p l e R s m args below meth c H locs cells slots mc ms N0 B D ca tys ls c1 c2 c3 c4 c5 c6 c7 c8)
theorem E_bald {i nn : Nat} {f : Nat → Int32} {x : Int32} (hd : decode y.2.1 pc = .ok (.baload, 1)) (hi : 3 ≤ i) (hh : h[i]? = some (.inl (2, nn, .inl f))) (hx : vp_in x nn) (K : E y d k n (pc + 1) lv (.int (f x.toNatClampNeg) :: st) h Q) : E y d k n pc lv (.int x :: .ref i :: st) h Q := by
  intro p l e R s m args below meth c H locs cells slots mc ms N0 B D ca tys ls c1 c2 c3 c4 c5 c6 c7 c8
  obtain ⟨-, t, ht⟩ := c7.2.2.2.2.1 i _ _ hh hi
  exact va_bald c1.1 c1.2.1 c7.1 c7.2.1 (i - 3) t (wd_get hi hh) ht hx hd (K p l e R s m args below meth c H locs cells slots mc ms N0 B D ca tys ls c1 c2 c3 c4 c5 c6 c7 c8)
theorem E_lald {i nn : Nat} {f : Nat → Int64} {x : Int32} (hd : decode y.2.1 pc = .ok (.laload, 1)) (hi : 3 ≤ i) (hh : h[i]? = some (.inl (3, nn, .inr (.inl f)))) (hx : vp_in x nn) (K : E y d k n (pc + 1) lv (.long (f x.toNatClampNeg) :: st) h Q) : E y d k n pc lv (.int x :: .ref i :: st) h Q := by
  intro p l e R s m args below meth c H locs cells slots mc ms N0 B D ca tys ls c1 c2 c3 c4 c5 c6 c7 c8
  obtain ⟨-, t, ht⟩ := c7.2.2.2.2.1 i _ _ hh hi
  exact va_lald c1.1 c1.2.1 c7.1 c7.2.1 (i - 3) t (wd_get hi hh) ht hx hd (K p l e R s m args below meth c H locs cells slots mc ms N0 B D ca tys ls c1 c2 c3 c4 c5 c6 c7 c8)
theorem E_aald {i nn : Nat} {f : Nat → Option Nat} {x : Int32} (hd : decode y.2.1 pc = .ok (.aaload, 1)) (hi : 3 ≤ i) (hh : h[i]? = some (.inl (4, nn, .inr (.inr (.inr (.inr f)))))) (hx : vp_in x nn) (K : E y d k n (pc + 1) lv (va_rf (f x.toNatClampNeg) :: st) h Q) : E y d k n pc lv (.int x :: .ref i :: st) h Q := by
  intro p l e R s m args below meth c H locs cells slots mc ms N0 B D ca tys ls c1 c2 c3 c4 c5 c6 c7 c8
  obtain ⟨-, t, ht⟩ := c7.2.2.2.2.1 i _ _ hh hi
  refine va_aldq c1.1 c1.2.1 c7.1 c7.2.1 (i - 3) t (wd_get hi hh) ht hx hd ?_
  have K2 := K p l e R s m args below meth c H locs cells slots mc ms N0 B D ca tys ls c1 c2 c3 c4 c5 c6 c7 c8
  rw [List.map_cons, tv_rf] at K2
  exact K2
theorem E_xald {i nn : Nat} {f : Nat → Int32} {x : Int32} (hd : decode y.2.1 pc = .ok (.iaload, 1)) (hi : i < 3) (hh : h[i]? = some (.inl (5, nn, .inl f))) (hx : vp_in x nn) (K : E y d k n (pc + 1) lv (.int (f x.toNatClampNeg) :: st) h Q) : E y d k n pc lv (.int x :: .ref i :: st) h Q := by
  intro p l e R s m args below meth c H locs cells slots mc ms N0 B D ca tys ls c1 c2 c3 c4 c5 c6 c7 c8
  obtain ⟨n', f', a1, cell, b1, b2, b3, b4, b5, b6, b7⟩ := c7.2.2.2.2.2.1 i hi
  cases hh.symm.trans a1
  have hlt : x.toNatClampNeg < nn := Nat.not_le.mp fun q => hx (Or.inr q)
  have hc : H[adr N0 B i]? = some cell := by
    unfold adr
    rw [if_pos hi]
    exact b1
  refine W.iald (v := .int (f x.toNatClampNeg)) c1.1 c1.2.1 hc b2 b3 (fun q => ?_) (b6 _ hlt) rfl rfl hd (K p l e R s m args below meth c H locs cells slots mc ms N0 B D ca tys ls c1 c2 c3 c4 c5 c6 c7 c8)
  rcases q with q | q
  · exact hx (Or.inl q)
  · omega
theorem E_alen {i kk : Nat} {x : vp_A} {v : Int32} (hd : decode y.2.1 pc = .ok (.arraylength, 1)) (hi : 3 ≤ i) (hh : h[i]? = some (.inl (kk, x))) (hv : Int32.ofNat x.1 = v) (K : E y d k n (pc + 1) lv (.int v :: st) h Q) : E y d k n pc lv (.ref i :: st) h Q := by
  intro p l e R s m args below meth c H locs cells slots mc ms N0 B D ca tys ls c1 c2 c3 c4 c5 c6 c7 c8
  obtain ⟨-, t, ht⟩ := c7.2.2.2.2.1 i _ _ hh hi
  exact va_alen c1.1 c1.2.1 c7.1 c7.2.1 (i - 3) t (wd_get hi hh) ht hv hd (K p l e R s m args below meth c H locs cells slots mc ms N0 B D ca tys ls c1 c2 c3 c4 c5 c6 c7 c8)
theorem E_xalen {i nn : Nat} {f : Nat → Int32} {v : Int32} (hd : decode y.2.1 pc = .ok (.arraylength, 1)) (hi : i < 3) (hh : h[i]? = some (.inl (5, nn, .inl f))) (hv : Int32.ofNat nn = v) (K : E y d k n (pc + 1) lv (.int v :: st) h Q) : E y d k n pc lv (.ref i :: st) h Q := by
  intro p l e R s m args below meth c H locs cells slots mc ms N0 B D ca tys ls c1 c2 c3 c4 c5 c6 c7 c8
  obtain ⟨n', f', a1, cell, b1, b2, b3, b4, b5, b6, b7⟩ := c7.2.2.2.2.2.1 i hi
  cases hh.symm.trans a1
  have hc : H[adr N0 B i]? = some cell := by
    unfold adr
    rw [if_pos hi]
    exact b1
  exact W.alen c1.1 c1.2.1 hc b2 (b5.trans hv) rfl rfl hd (K p l e R s m args below meth c H locs cells slots mc ms N0 B D ca tys ls c1 c2 c3 c4 c5 c6 c7 c8)
theorem E_iast {i nn : Nat} {f : Nat → Int32} {x : Int32} {v : Int32} (hd : decode y.2.1 pc = .ok (.iastore, 1)) (hi : 3 ≤ i) (hh : h[i]? = some (.inl (0, nn, .inl f))) (hx : vp_in x nn) (K : E y d k n (pc + 1) lv st (h.set i (.inl (0, nn, .inl (upd f x.toNatClampNeg v)))) Q) : E y d k n pc lv (.int v :: .int x :: .ref i :: st) h Q := by
  intro p l e R s m args below meth c H locs cells slots mc ms N0 B D ca tys ls c1 c2 c3 c4 c5 c6 c7 c8
  obtain ⟨-, t, ht⟩ := c7.2.2.2.2.1 i _ _ hh hi
  refine W.iast c1.1 c1.2.1 (c7.2.1 (i - 3) _ (wd_get hi hh)) ((c7.1.2 t _ ht).1 nn (fun j => .int (f j))) (fun q => by cases q) (by show ¬ (x < 0 ∨ (arrV _ _ _).slots.size ≤ _); rw [arrV_size]; exact hx) rfl rfl hd fun H1 e1 z oq => ?_
  refine K p l e R s m args below meth c H1 _ cells slots mc ms N0 B D ca tys ls c1 c2 c3 c4 c5 (c6.put z oq (by rw [adr_ge hi]; exact Nat.le_add_right _ _)) (c7.set hi hh ?_ z oq (fun k' x' e9 => by cases e9; exact ⟨_, rfl⟩)) c8
  show H1[adr N0 B i]? = some (vp_cell _ _)
  rw [e1]
  show some ((vp_cell (ca i) (nn, .inl f)).setSlot _ _) = some (vp_cell (ca i) (nn, .inl (upd f x.toNatClampNeg v)))
  rw [vp_cell_i, vp_cell_i, arrV_store]
  congr 2
  funext q
  by_cases hq : q = x.toNatClampNeg
  · subst hq
    simp [updV, upd]
    try rfl
  · simp [updV, upd, hq]
theorem E_zast {i nn : Nat} {f : Nat → Int32} {x : Int32} {v : Int32} (hd : decode y.2.1 pc = .ok (.bastore, 1)) (hi : 3 ≤ i) (hh : h[i]? = some (.inl (1, nn, .inl f))) (hx : vp_in x nn) (K : E y d k n (pc + 1) lv st (h.set i (.inl (1, nn, .inl (upd f x.toNatClampNeg (vp_nar .boolean v))))) Q) : E y d k n pc lv (.int v :: .int x :: .ref i :: st) h Q := by
  intro p l e R s m args below meth c H locs cells slots mc ms N0 B D ca tys ls c1 c2 c3 c4 c5 c6 c7 c8
  obtain ⟨-, t, ht⟩ := c7.2.2.2.2.1 i _ _ hh hi
  refine W.zast c1.1 c1.2.1 (c7.2.1 (i - 3) _ (wd_get hi hh)) ((c7.1.2 t _ ht).1 nn (fun j => .int (f j))) (fun q => by cases q) (by show ¬ (x < 0 ∨ (arrV _ _ _).slots.size ≤ _); rw [arrV_size]; exact hx) rfl rfl hd fun H1 e1 z oq => ?_
  refine K p l e R s m args below meth c H1 _ cells slots mc ms N0 B D ca tys ls c1 c2 c3 c4 c5 (c6.put z oq (by rw [adr_ge hi]; exact Nat.le_add_right _ _)) (c7.set hi hh ?_ z oq (fun k' x' e9 => by cases e9; exact ⟨_, rfl⟩)) c8
  show H1[adr N0 B i]? = some (vp_cell _ _)
  rw [e1]
  show some ((vp_cell (ca i) (nn, .inl f)).setSlot _ _) = some (vp_cell (ca i) (nn, .inl (upd f x.toNatClampNeg (vp_nar .boolean v))))
  rw [vp_cell_i, vp_cell_i, arrV_store]
  congr 2
  funext q
  by_cases hq : q = x.toNatClampNeg
  · subst hq
    simp [updV, upd, vp_nar]
    try rfl
  · simp [updV, upd, hq]
theorem E_bast {i nn : Nat} {f : Nat → Int32} {x : Int32} {v : Int32} (hd : decode y.2.1 pc = .ok (.bastore, 1)) (hi : 3 ≤ i) (hh : h[i]? = some (.inl (2, nn, .inl f))) (hx : vp_in x nn) (K : E y d k n (pc + 1) lv st (h.set i (.inl (2, nn, .inl (upd f x.toNatClampNeg (vp_nar .byte v))))) Q) : E y d k n pc lv (.int v :: .int x :: .ref i :: st) h Q := by
  intro p l e R s m args below meth c H locs cells slots mc ms N0 B D ca tys ls c1 c2 c3 c4 c5 c6 c7 c8
  obtain ⟨-, t, ht⟩ := c7.2.2.2.2.1 i _ _ hh hi
  refine W.bast c1.1 c1.2.1 (c7.2.1 (i - 3) _ (wd_get hi hh)) ((c7.1.2 t _ ht).1 nn (fun j => .int (f j))) (fun q => by cases q) (by show ¬ (x < 0 ∨ (arrV _ _ _).slots.size ≤ _); rw [arrV_size]; exact hx) rfl rfl hd fun H1 e1 z oq => ?_
  refine K p l e R s m args below meth c H1 _ cells slots mc ms N0 B D ca tys ls c1 c2 c3 c4 c5 (c6.put z oq (by rw [adr_ge hi]; exact Nat.le_add_right _ _)) (c7.set hi hh ?_ z oq (fun k' x' e9 => by cases e9; exact ⟨_, rfl⟩)) c8
  show H1[adr N0 B i]? = some (vp_cell _ _)
  rw [e1]
  show some ((vp_cell (ca i) (nn, .inl f)).setSlot _ _) = some (vp_cell (ca i) (nn, .inl (upd f x.toNatClampNeg (vp_nar .byte v))))
  rw [vp_cell_i, vp_cell_i, arrV_store]
  congr 2
  funext q
  by_cases hq : q = x.toNatClampNeg
  · subst hq
    simp [updV, upd, vp_nar]
    try rfl
  · simp [updV, upd, hq]
theorem E_last {i nn : Nat} {f : Nat → Int64} {x : Int32} {v : Int64} (hd : decode y.2.1 pc = .ok (.lastore, 1)) (hi : 3 ≤ i) (hh : h[i]? = some (.inl (3, nn, .inr (.inl (f))))) (hx : vp_in x nn) (K : E y d k n (pc + 1) lv st (h.set i (.inl (3, nn, .inr (.inl (vp_updL f x.toNatClampNeg v))))) Q) : E y d k n pc lv (.long v :: .int x :: .ref i :: st) h Q := by
  intro p l e R s m args below meth c H locs cells slots mc ms N0 B D ca tys ls c1 c2 c3 c4 c5 c6 c7 c8
  obtain ⟨-, t, ht⟩ := c7.2.2.2.2.1 i _ _ hh hi
  refine W.last c1.1 c1.2.1 (c7.2.1 (i - 3) _ (wd_get hi hh)) ((c7.1.2 t _ ht).1 nn (fun j => .long (f j))) (fun q => by cases q) (by show ¬ (x < 0 ∨ (arrV _ _ _).slots.size ≤ _); rw [arrV_size]; exact hx) rfl rfl hd fun H1 e1 z oq => ?_
  refine K p l e R s m args below meth c H1 _ cells slots mc ms N0 B D ca tys ls c1 c2 c3 c4 c5 (c6.put z oq (by rw [adr_ge hi]; exact Nat.le_add_right _ _)) (c7.set hi hh ?_ z oq (fun k' x' e9 => by cases e9; exact ⟨_, rfl⟩)) c8
  show H1[adr N0 B i]? = some (vp_cell _ _)
  rw [e1]
  show some ((vp_cell (ca i) (nn, .inr (.inl (f)))).setSlot _ _) = some (vp_cell (ca i) (nn, .inr (.inl (vp_updL f x.toNatClampNeg v))))
  rw [vp_cell_l, vp_cell_l, arrV_store]
  congr 2
  funext q
  by_cases hq : q = x.toNatClampNeg
  · subst hq
    simp [updV, vp_updL]
    try rfl
  · simp [updV, vp_updL, hq]
end EA
end
section
/-! REFERENCES IN ARRAYS, NEW CELLS, STATICS -/
section EN
variable {y : MI} {d k n pc : Nat} {lv : List (Nat × Value)} {st : List Value} {h : HP} {Q : Option Value → HP → Prop}
theorem CL_chain : CL[1]? = some (RX1, TX1, 3) := rfl
theorem E_aast {i nn v : Nat} {f : Nat → Option Nat} {x : Int32} {vs : List Value} (hd : decode y.2.1 pc = .ok (.aastore, 1)) (hi : 3 ≤ i) (hh : h[i]? = some (.inl (4, nn, .inr (.inr (.inr (.inr f)))))) (hx : vp_in x nn) (hv3 : 3 ≤ v) (hv : h[v]? = some (.inr (1, vs))) (K : E y d k n (pc + 1) lv st (h.set i (.inl (4, nn, .inr (.inr (.inr (.inr (va_up f x.toNatClampNeg (some v)))))))) Q) : E y d k n pc lv (.ref v :: .int x :: .ref i :: st) h Q := by
  intro p l e R s m args below meth c H locs cells slots mc ms N0 B D ca tys ls c1 c2 c3 c4 c5 c6 c7 c8
  obtain ⟨-, t, ht⟩ := c7.2.2.2.2.1 i _ _ hh hi
  have hlt : x.toNatClampNeg < nn := Nat.not_le.mp fun q => hx (Or.inr q)
  have h0 : ¬ x < 0 := fun q => hx (Or.inl q)
  obtain ⟨r', hr', cellV, g1, g2, g3, -⟩ := c7.2.1 (v - 3) _ (wd_get hv3 hv)
  have hcls := (c7.1.1 1 _ CL_chain).2
  obtain ⟨kA, comp, k1, k2, k3, -⟩ := (c7.1.2 t _ ht).2
  have hcomp : comp = D.1 1 := Option.some.inj (k3.symm.trans hcls.1)
  subst hcomp
  obtain ⟨kC, hkC, -⟩ := hcls.2
  refine W.aast c1.1 c1.2.1 (c7.2.1 (i - 3) _ (wd_get hi hh)) (fun q h => by cases h) (fun h => by cases h) k1 k2 rfl hkC ⟨h0, by show _ < (arrV _ _ _).slots.size; rw [arrV_size]; exact hlt⟩ g1 (fun q h => by rw [g3] at h; cases h) (by rw [g2]; exact hkC) (by rw [g2]; exact va_assign hcls) rfl rfl hd fun H1 e1 z oq => ?_
  refine K p l e R s m args below meth c H1 _ cells slots mc ms N0 B D ca tys ls c1 c2 c3 c4 c5 (c6.put z oq (by rw [adr_ge hi]; exact Nat.le_add_right _ _)) (c7.set hi hh ?_ z oq (fun k' x' e9 => by cases e9; exact ⟨_, rfl⟩)) c8
  show H1[adr N0 B i]? = some (vp_cell _ _)
  rw [e1]
  show some ((vp_cell (ca i) (nn, .inr (.inr (.inr (.inr (fun j => (f j).map (adr N0 B))))))).setSlot _ _) = some (vp_cell (ca i) (nn, .inr (.inr (.inr (.inr (fun j => (va_up f x.toNatClampNeg (some v) j).map (adr N0 B)))))))
  rw [vp_cell_q, vp_cell_q, arrV_store]
  congr 2
  funext q
  by_cases hq : q = x.toNatClampNeg
  · subst hq
    simp [updV, va_up, va_rf]
  · simp [updV, va_up, hq]
theorem E_aastN {i nn : Nat} {f : Nat → Option Nat} {x : Int32} (hd : decode y.2.1 pc = .ok (.aastore, 1)) (hi : 3 ≤ i) (hh : h[i]? = some (.inl (4, nn, .inr (.inr (.inr (.inr f)))))) (hx : vp_in x nn) (K : E y d k n (pc + 1) lv st (h.set i (.inl (4, nn, .inr (.inr (.inr (.inr (va_up f x.toNatClampNeg none))))))) Q) : E y d k n pc lv (.null :: .int x :: .ref i :: st) h Q := by
  intro p l e R s m args below meth c H locs cells slots mc ms N0 B D ca tys ls c1 c2 c3 c4 c5 c6 c7 c8
  obtain ⟨-, t, ht⟩ := c7.2.2.2.2.1 i _ _ hh hi
  refine va_WaastN (C := "SwitchDesk$Chain") c1.1 c1.2.1 (c7.2.1 (i - 3) _ (wd_get hi hh)) ((c7.1.2 t _ ht).1 nn (fun j => va_rf ((f j).map (adr N0 B)))) (fun h => by cases h) (by show ¬ (x < 0 ∨ (arrV _ _ _).slots.size ≤ _); rw [arrV_size]; exact hx) rfl rfl hd fun H1 e1 z oq => ?_
  refine K p l e R s m args below meth c H1 _ cells slots mc ms N0 B D ca tys ls c1 c2 c3 c4 c5 (c6.put z oq (by rw [adr_ge hi]; exact Nat.le_add_right _ _)) (c7.set hi hh ?_ z oq (fun k' x' e9 => by cases e9; exact ⟨_, rfl⟩)) c8
  show H1[adr N0 B i]? = some (vp_cell _ _)
  rw [e1]
  show some ((vp_cell (ca i) (nn, .inr (.inr (.inr (.inr (fun j => (f j).map (adr N0 B))))))).setSlot _ _) = some (vp_cell (ca i) (nn, .inr (.inr (.inr (.inr (fun j => (va_up f x.toNatClampNeg none j).map (adr N0 B)))))))
  rw [vp_cell_q, vp_cell_q, arrV_store]
  congr 2
  funext q
  by_cases hq : q = x.toNatClampNeg
  · subst hq
    simp [updV, va_up, va_rf]
  · simp [updV, va_up, hq]
/-- a class whose objects may be made -/
def okW (own : String) (idx ci : Nat) (N : Nat) (ty0 : Nat → FieldType) : Prop := ∃ (C : String) (T : u_T), CL[ci]? = some (C, T, N) ∧ (∀ w ∈ u_ws C T N, w ∈ GT) ∧ okC ci ty0 ∧ Cond.classLink own idx C ∈ GT ∧ Cond.instantiable C N ∈ GT ∧ Cond.initialized C ∈ GT
theorem E_new {idx ci N : Nat} {fs : List Value} {ty0 : Nat → FieldType} (hd : decode y.2.1 pc = .ok (.new idx, 3)) (ok : okW y.1.cls idx ci N ty0) (hfs : ∀ j, j < N → fs[j]? = some (defaultValue (ty0 j))) (hk : 1 ≤ k) (hn : N ≤ n) (K : E y d (k - 1) (n - N) (pc + 3) lv (.ref h.length :: st) (h ++ [.inr (ci, fs)]) Q) : E y d k n pc lv st h Q := by
  intro p l e R s m args below meth c H locs cells slots mc ms N0 B D ca tys ls c1 c2 c3 c4 c5 c6 c7 c8
  obtain ⟨C, T, hc, hin, hC, g1, g2, g3⟩ := ok
  obtain ⟨-, hty0⟩ := hC C T N hc
  have hts := c1.2.2.2.2.2.1
  have hKn := c7.1.1 ci _ hc
  refine W.newcK c1.1 c1.2.1 c1.2.2.2.2.1 (hts _ g1) (hts _ g2) (hts _ g3) rfl hd (by have := c2.2.2.1; omega) (by have := c2.2.2.2; omega) hKn.2.1 rfl fun H1 kC hkC e1 z1 o1 => ?_
  have hdef : ∀ (a : Nat → Nat) (ty : FieldType), tv a (defaultValue ty) = defaultValue ty := fun a ty => by cases ty <;> rfl
  have K2 := K p l e R s m args below meth c H1 locs (cells + 1) (slots + N) mc ms N0 B D _ tys ls c1 c2 (by omega) (by omega) c5 ⟨Nat.le_trans c6.1 (by omega), fun x h1 h2 => (o1 x (Nat.lt_of_lt_of_le h1 c6.1)).trans (c6.2.1 x h1 h2), c6.2.2⟩ (c7.push (cA := 0) (c := .inr (ci, fs)) ⟨_, hc, (u_born ty0 hts hin hKn hkC e1 hty0).to (fun j hj => by
    have h9 := hfs j hj
    simp [vp_V, List.getD_eq_getElem?_getD, List.getElem?_map, h9, hdef])⟩ z1 o1 c7.1 (fun _ _ q => q) (fun k' x e9 => by cases e9)) c8
  rw [List.map_cons] at K2
  show W p l e R s m args below meth c H1 locs (cells + 1) (slots + N) _ (F0 m (pc + 3) ls (.ref H.size :: _))
  rw [← adr_new c7]
  exact K2
theorem E_newa {kk nn : Nat} {x : Int32} {atype : ArrayType} {a0 : vp_A} (hd : decode y.2.1 pc = .ok (.newarray atype, 2)) (hg : Cond.arrayClass (kty kk) ∈ GT) (hty : newarray.typeOf atype = kty kk) (hk5 : kk < 4) (ha : ∀ cA : ClassId, vp_cell cA a0 = arrV cA nn (fun _ => defaultValue (kty kk))) (ha2 : ∀ a, ta a a0 = a0) (hx : ¬ x < 0) (hN : x.toNatClampNeg = nn) (hb : nn * componentBytes (kty kk) ≤ 536870912) (hk : 1 ≤ k) (hn : nn ≤ n) (K : E y d (k - 1) (n - nn) (pc + 2) lv (.ref h.length :: st) (h ++ [.inl (kk, a0)]) Q) : E y d k n pc lv (.int x :: st) h Q := by
  intro p l e R s m args below meth c H locs cells slots mc ms N0 B D ca tys ls c1 c2 c3 c4 c5 c6 c7 c8
  have hts := c1.2.2.2.2.2.1
  refine va_newaK c1.1 c1.2.1 (by rw [hty]; exact hts _ hg) rfl hd rfl hx hN (by rw [hty]; exact hb) (by have := c2.2.2.1; omega) (by have := c2.2.2.2; omega) rfl fun H1 cA e1 z1 o1 hAr hNm => ?_
  rw [hty] at e1 hAr hNm
  have hK2 : va_K D CL (tys ++ [(cA, kty kk)]) s := c7.1.app ⟨c7.1.1, fun j q hj => by
    have hz : j < 1 := (List.getElem?_eq_some_iff.mp hj).1
    rw [show j = 0 by omega] at hj
    cases hj
    refine ⟨hAr, ?_⟩
    match kk, hk5, hNm with
    | 0, _, h9 => exact h9
    | 1, _, h9 => exact h9
    | 2, _, h9 => exact h9
    | 3, _, h9 => exact h9⟩
  have K2 := K p l e R s m args below meth c H1 locs (cells + 1) (slots + nn) mc ms N0 B D _ _ ls c1 c2 (by omega) (by omega) c5 ⟨Nat.le_trans c6.1 (by omega), fun x h1 h2 => (o1 x (Nat.lt_of_lt_of_le h1 c6.1)).trans (c6.2.1 x h1 h2), c6.2.2⟩ (c7.push (cA := cA) (c := .inl (kk, a0)) (by
    show H1[H.size]? = some (vp_cell cA (ta _ a0))
    rw [ha2, ha]
    exact e1) z1 o1 hK2 (fun t x hx => by rw [List.getElem?_append_left (List.getElem?_eq_some_iff.mp hx).1]; exact hx) (fun k' x e9 => by
    cases e9
    exact ⟨by omega, tys.length, by simp⟩)) c8
  rw [List.map_cons] at K2
  show W p l e R s m args below meth c H1 locs (cells + 1) (slots + nn) _ (F0 m (pc + 2) ls (.ref H.size :: _))
  rw [← adr_new c7]
  exact K2
theorem E_newq {idx nn : Nat} {x : Int32} (hd : decode y.2.1 pc = .ok (.anewarray idx, 3)) (hg : Cond.classLink y.1.cls idx "SwitchDesk$Chain" ∈ GT) (hx : ¬ x < 0) (hN : x.toNatClampNeg = nn) (hb : nn * 4 ≤ 536870912) (hk : 1 ≤ k) (hn : nn ≤ n) (K : E y d (k - 1) (n - nn) (pc + 3) lv (.ref h.length :: st) (h ++ [.inl (4, nn, .inr (.inr (.inr (.inr (fun _ => none)))))]) Q) : E y d k n pc lv (.int x :: st) h Q := by
  intro p l e R s m args below meth c H locs cells slots mc ms N0 B D ca tys ls c1 c2 c3 c4 c5 c6 c7 c8
  have hts := c1.2.2.2.2.2.1
  subst hN
  refine W.anew c1.1 c1.2.1 c1.2.2.2.2.1 (hts _ hg) (va_AO.use c1.2.2.2.2.2.2.2.2.2.2) rfl hd rfl hx hb (by have := c2.2.2.1; omega) (by have := c2.2.2.2; omega) fun cA kA comp f1 f2 f3 f4 => ?_
  generalize hH1 : H.push ({ cls := cA, slots := Array.replicate x.toNatClampNeg .null, vm := .none } : Cell) = H1
  have z1 : H1.size = H.size + 1 := by rw [← hH1, Array.size_push]
  have e1 : H1[H.size]? = some (arrV cA x.toNatClampNeg (fun _ => .null)) := by rw [← hH1, Array.getElem?_push_size, ← arrV_new]
  have o1 : ∀ q : Nat, q < H.size → H1[q]? = H[q]? := fun q hq => by rw [← hH1, Array.getElem?_push, if_neg (Nat.ne_of_lt hq)]
  have hAr : ArrOfT s cA (.object "SwitchDesk$Chain") := fun N z => ⟨(fun k h => by cases h), kA, f2, comp, f3⟩
  have hK2 : va_K D CL (tys ++ [(cA, kty 4)]) s := c7.1.app ⟨c7.1.1, fun j q hj => by
    have hz : j < 1 := (List.getElem?_eq_some_iff.mp hj).1
    rw [show j = 0 by omega] at hj
    cases hj
    exact ⟨hAr, kA, comp, f2, f3, f4, f1⟩⟩
  have K2 := K p l e R s m args below meth c H1 locs (cells + 1) (slots + x.toNatClampNeg) mc ms N0 B D _ _ ls c1 c2 (by omega) (by omega) c5 ⟨Nat.le_trans c6.1 (by omega), fun x h1 h2 => (o1 x (Nat.lt_of_lt_of_le h1 c6.1)).trans (c6.2.1 x h1 h2), c6.2.2⟩ (c7.push (cA := cA) (c := .inl (4, x.toNatClampNeg, .inr (.inr (.inr (.inr (fun _ => none)))))) e1 z1 o1 hK2 (fun t x hx => by rw [List.getElem?_append_left (List.getElem?_eq_some_iff.mp hx).1]; exact hx) (fun k' x e9 => by
    cases e9
    exact ⟨by omega, tys.length, by simp⟩)) c8
  rw [List.map_cons] at K2
  show W p l e R s m args below meth c H1 locs (cells + 1) (slots + x.toNatClampNeg) _ (F0 m (pc + 3) ls (.ref H.size :: _))
  rw [← adr_new c7]
  exact K2
theorem E_lowest {idx : Nat} (hd : decode y.2.1 pc = .ok (.getstatic idx, 3)) (hg : Cond.fieldLink y.1.cls idx "SwitchDesk$Numbers" "LOWEST" "[I" ∈ GT) (K : E y d k n (pc + 3) lv (.ref 1 :: st) h Q) : E y d k n pc lv st h Q := by
  intro p l e R s m args below meth c H locs cells slots mc ms N0 B D ca tys ls c1 c2 c3 c4 c5 c6 c7 c8
  obtain ⟨cf, kf, fi, f, a, cell, h1, h2, h3, h4, h5, h6, h7, h8⟩ := c7.2.2.2.2.2.2.1
  exact W.gets c1.1 c1.2.1 c1.2.2.2.2.1 (c1.2.2.2.2.2.1 _ hg) h1 h2 h3 h4 h5 (fun e => by rw [e] at h6; cases h6) h7 rfl hd (K p l e R s m args below meth c H locs cells slots mc ms N0 B D ca tys ls c1 c2 c3 c4 c5 c6 c7 c8)
theorem E_highest {idx : Nat} (hd : decode y.2.1 pc = .ok (.getstatic idx, 3)) (hg : Cond.fieldLink y.1.cls idx "SwitchDesk$Numbers" "HIGHEST" "[I" ∈ GT) (K : E y d k n (pc + 3) lv (.ref 2 :: st) h Q) : E y d k n pc lv st h Q := by
  intro p l e R s m args below meth c H locs cells slots mc ms N0 B D ca tys ls c1 c2 c3 c4 c5 c6 c7 c8
  obtain ⟨cf, kf, fi, f, a, cell, h1, h2, h3, h4, h5, h6, h7, h8⟩ := c7.2.2.2.2.2.2.2.1
  exact W.gets c1.1 c1.2.1 c1.2.2.2.2.1 (c1.2.2.2.2.2.1 _ hg) h1 h2 h3 h4 h5 (fun e => by rw [e] at h6; cases h6) h7 rfl hd (K p l e R s m args below meth c H locs cells slots mc ms N0 B D ca tys ls c1 c2 c3 c4 c5 c6 c7 c8)
theorem E_objInit {idx i : Nat} (hd : decode y.2.1 pc = .ok (.invokespecial idx, 3)) (h1 : Cond.methodLink y.1.cls idx Lib.objectInit ∈ GT) (h2 : Cond.instanceMethod Lib.objectInit ∈ GT) (h3 : Cond.code Lib.objectInit ⟨#[0xb1]⟩ 1 none ∈ GT) (hd1 : 1 ≤ d) (hst : (st.map fun v => v.category).sum ≤ 20) (K : E y d k n (pc + 3) lv st h Q) : E y d k n pc lv (.ref i :: st) h Q := by
  intro p l e R s m args below meth c H locs cells slots mc ms N0 B D ca tys ls c1 c2 c3 c4 c5 c6 c7 c8
  have hts := c1.2.2.2.2.2.1
  refine W.objInit c1.1 c1.2.1 c1.2.2.2.2.1 (hts _ h1) (hts _ h2) (hts _ h3) rfl (by rw [c1.2.2.2.1]; exact c8.1) rfl hd (Nat.le_trans hd1 c2.1) ?_ (K p l e R s m args below meth c H locs cells slots mc ms N0 B D ca tys ls c1 c2 c3 c4 c5 c6 c7 c8)
  have hc : ((st.map (tv (adr N0 B))).map fun v => v.category) = st.map fun v => v.category := by
    rw [List.map_map]
    exact List.map_congr_left (fun v _ => tv_cat _ v)
  rw [hc]
  show 2 * 0 + _ + 12 ≤ _
  have := c2.2.1
  omega
end EN
end
section
/-! CALLS: a triple of the callee's body gives its contract, and that the caller's step -/
section EC
variable {y : MI} {d k n pc : Nat} {lv : List (Nat × Value)} {st : List Value} {h : HP} {Q : Option Value → HP → Prop}
theorem lv_args_map (a : Nat → Nat) (vs : List Value) : ∀ i, lv_args i (vs.map (tv a)) = lm a (lv_args i vs) := by
  induction vs with
  | nil => intro i; rfl
  | cons v t ih =>
    intro i
    show (i, tv a v) :: lv_args (if (tv a v).category = 2 then i + 2 else i + 1) (t.map (tv a)) = lm a ((i, v) :: lv_args (if v.category = 2 then i + 2 else i + 1) t)
    rw [tv_cat, ih]
    rfl
theorem lg_sl_len (a : Nat → Nat) (vs : List Value) : (lg_sl (vs.map (tv a))).length = (lg_sl vs).length := by
  induction vs with
  | nil => rfl
  | cons v t ih =>
    show ((if (tv a v).category = 2 then [Slot.val (tv a v), .second] else [.val (tv a v)]) ++ lg_sl (t.map (tv a))).length = ((if v.category = 2 then [Slot.val v, .second] else [.val v]) ++ lg_sl t).length
    rw [tv_cat, List.length_append, List.length_append, ih]
    split <;> rfl
def PI (N0 : Nat) (B : Nat → Nat) (D : va_G) (ca : Nat → ClassId) (tys : List (ClassId × FieldType)) (h : HP) (vs : List Value) : Array Value → State → Prop := va_Pc (vs.map (tv (adr N0 B))) (fun U => HI N0 B D ca tys h U U.heap ∧ NI U ∧ N0 ≤ U.heap.size)
theorem met_of_E {vs : List Value} (hE : E y d k n 0 (lv_args 0 vs) [] h Q) (hy : plainName y.1.cls = true) (hl : (lg_sl vs).length ≤ y.2.2.1) (l : Launch) (N0 : Nat) (B : Nat → Nat) (D : va_G) (ca : Nat → ClassId) (tys : List (ClassId × FieldType)) : Met l y.1 (Cond.code y.1 y.2.1 y.2.2.1 y.2.2.2 :: GT) { frames := d, cells := k, slots := n, locals := 40 * d } (PI N0 B D ca tys h vs) (EQ N0 B D Q) k n (AA N0) := by
  refine Met.ofW (cc := y.2.1) (maxL := y.2.2.1) (ret := y.2.2.2) hy rfl ?_
  intro p e s m args below meth c s₁ Bd hml hv
  obtain ⟨rfl, hI, hN, hz⟩ := hv
  have hts := atoms_spec (ws := Cond.code y.1 y.2.1 y.2.2.1 y.2.2.2 :: GT) Bd.pre
  rw [lg_entry_eq]
  refine hE p l e _ s m _ below meth c s.heap [] 0 0 k n N0 B D ca tys _ ⟨Bd.exec, Bd.bytes, Bd.returns, hml, findClass_of_methodNamed Bd.named, fun w hw => hts w (List.mem_cons_of_mem _ hw), Bd.notSynchronized, (name_of_methodNamed Bd.named Bd.method).1, hN⟩ ⟨Nat.le_refl _, Nat.le_refl _, Nat.le_refl _, Nat.le_refl _⟩ (by omega) (by omega) hz va_S.rf hI ?_
  rw [← lv_args_map]
  exact lv_entry _ (by rw [lg_sl_len]; exact hl)
theorem NI.warm {s U : State} (hW : s.WarmedH U.vm) (hN : NI s) : NI U := ⟨fun a i x b hm => (hN.1 a i x b hm).warmM hW, fun a i r nm ds b hm => (hN.2.1 a i r nm ds b hm).warmF hW, va_AO.moved hW.alike hN.2.2⟩
theorem run_go {p : Program} {l : Launch} {e : Env} {R : Room} {s : State} {m : MethodId} {args a : Array Value} {below : List Frame} {meth : Method} {c : Code} {H : Heap} {locs : List Loc} {cells slots kc nc pc N0 : Nat} {B : Nat → Nat} {D : va_G} {Qw : State → Prop} {Qc : Option Value → HP → Prop} {ls : Array Slot} {st0 rest : List Value}
    (hr : va_Run p l e R s m args below meth c H locs cells slots kc nc (F0 m pc ls st0) rest (EQ N0 B D Qc a) (AA N0)) (hS : va_S (AA N0) s.heap H locs)
    (kk : ∀ (r : Option Value) (h' : HP) (ca : Nat → ClassId) (tys : List (ClassId × FieldType)) (H' : Heap) (locs' : List Loc), Qc r h' → HI N0 B D ca tys h' s H' → va_S (AA N0) s.heap H' locs' → W p l e R s m args below meth c H' locs' (cells + kc) (slots + nc) Qw (F0 m (pc + 3) ls ((r.map (tv (adr N0 B))).toList ++ rest))) :
    W p l e R s m args below meth c H locs cells slots Qw (F0 m pc ls st0) := by
  intro T hT X
  obtain ⟨v, st₀, t, T', L, h0, X', hL, e1, e2, ⟨r, h', ca', tys', hv, hq, hI, hz, hk⟩, st⟩ := hr T hT X
  cases hv
  rw [h0] at hz hk
  have hal : t.vm.Alike s.vm := by rw [← e2]; exact X'.warmed.alike.symm
  have hI2 : HI N0 B D ca' tys' h' s T'.heap := by rw [e1]; exact hI.moved hal
  obtain ⟨t2, a1, b1⟩ := kk r h' ca' tys' T'.heap (locs ++ L) hq hI2
    ⟨Nat.le_trans hS.1 (by rw [e1]; exact hz), fun q h1 h2 => by rw [e1, hk q (Nat.lt_of_lt_of_le h1 hS.1) h2]; exact hS.2.1 q h1 h2, fun q hq => by
      rcases List.mem_append.mp hq with h | h
      · exact hS.2.2 q h
      · exact hL q h⟩ T' rfl X'
  exact ⟨t2, st t2 a1, b1⟩
def EM (y : MI) (d k n : Nat) (vs : List Value) (h : HP) (Q : Option Value → HP → Prop) : Prop := E y d k n 0 (lv_args 0 vs) [] h Q
/-- what is known of a callee's code -/
def okY (yc : MI) (np : Nat) : Prop := Cond.code yc.1 yc.2.1 yc.2.2.1 yc.2.2.2 ∈ GT ∧ Cond.initialized yc.1.cls ∈ GT ∧ plainName yc.1.cls = true ∧ (yc.1.cls ≠ "java/lang/invoke/MethodHandle" ∧ yc.1.cls ≠ "java/lang/invoke/VarHandle" ∧ (parseMethodDescriptor yc.1.desc).map (fun d => d.parameters.length) = some np) ∧ yc.2.2.1 ≤ 21
def okV (own : String) (idx : Nat) (yc : MI) (np : Nat) : Prop := okY yc np ∧ Cond.instanceMethod yc.1 ∈ GT ∧ Cond.selects yc.1.cls yc.1 yc.1 ∈ GT ∧ (Cond.methodLink own idx yc.1 ∈ GT ∨ ∃ host, Cond.methodLinkNest own idx yc.1 host ∈ lw_tbl)
def okS (own : String) (idx : Nat) (yc : MI) (np : Nat) : Prop := okY yc np ∧ Cond.static yc.1 ∈ GT ∧ (Cond.methodLink own idx yc.1 ∈ GT ∨ ∃ host, Cond.methodLinkNest own idx yc.1 host ∈ lw_tbl)
def okI (own : String) (idx : Nat) (yc : MI) (np : Nat) : Prop := okY yc np ∧ yc.2.2.2 = none ∧ yc.1.name = "<init>" ∧ Cond.instanceMethod yc.1 ∈ GT ∧ (Cond.methodLink own idx yc.1 ∈ GT ∨ ∃ host, Cond.methodLinkNest own idx yc.1 host ∈ lw_tbl)
theorem cat_map (a : Nat → Nat) (rest : List Value) : ((rest.map (tv a)).map fun v => v.category).sum = (rest.map fun v => v.category).sum := by
  rw [List.map_map]
  exact congrArg _ (List.map_congr_left (fun v _ => tv_cat _ v))
theorem PI_blind {N0 : Nat} {B : Nat → Nat} {D : va_G} {ca : Nat → ClassId} {tys : List (ClassId × FieldType)} {h : HP} {vs : List Value} : FrameBlind (PI N0 B D ca tys h vs) := by
  intro a U g mk q
  obtain ⟨q0, q1, q2, q3⟩ := q
  exact ⟨q0, q1.moved (u := U) (U := U.calling g mk a) (Vm.Alike.refl U.vm), ⟨fun a i x b hm => (q2.1 a i x b hm).same rfl rfl, fun a i r nm ds b hm => (q2.2.1 a i r nm ds b hm).same rfl rfl, va_AO.moved (u := U) (U := U.calling g mk a) (Vm.Alike.refl U.vm) q2.2.2⟩, q3⟩
theorem PI_at {N0 : Nat} {B : Nat → Nat} {D : va_G} {ca : Nat → ClassId} {tys : List (ClassId × FieldType)} {h : HP} {vs : List Value} {s : State} {H : Heap} (hI : HI N0 B D ca tys h s H) (hN : NI s) (hz : N0 ≤ H.size) : ∀ U : State, U.heap = H → s.WarmedH U.vm → PI N0 B D ca tys h vs (vs.map (tv (adr N0 B))).toArray U :=
  fun U hU hW => ⟨rfl, by rw [hU]; exact hI.moved hW.alike, hN.warm hW, by rw [hU]; exact hz⟩
theorem E_callV {yc : MI} {idx np ci i dc kc nc : Nat} {fs : List Value} {q : vw_C} {Qc : Option Value → HP → Prop} (As rest : List Value) (hd : decode y.2.1 pc = .ok (.invokevirtual idx, 3)) (ok : okV y.1.cls idx yc np) (hst : st = As.reverse ++ .ref i :: rest) (hnp : As.length = np) (hi : 3 ≤ i) (hh : h[i]? = some (.inr (ci, fs))) (hc : CL[ci]? = some q) (hq : q.1 = yc.1.cls) (hl : (lg_sl (.ref i :: As)).length ≤ yc.2.2.1) (hw : (rest.map fun v => v.category).sum ≤ 8) (hC : EM yc dc kc nc (.ref i :: As) h Qc) (hdc : dc + 1 ≤ d) (hk : kc ≤ k) (hn : nc ≤ n) (K : ∀ r h', Qc r h' → E y d (k - kc) (n - nc) (pc + 3) lv (r.toList ++ rest) h' Q) : E y d k n pc lv st h Q := by
  intro p l e R s m args below meth c H locs cells slots mc ms N0 B D ca tys ls c1 c2 c3 c4 c5 c6 c7 c8
  obtain ⟨⟨g1, g2, g3, g4, g5⟩, g6, g7, g8⟩ := ok
  have hts := c1.2.2.2.2.2.1
  have hM := met_of_E hC g3 hl l N0 B D ca tys
  subst hst
  have hR : dc + 1 ≤ R.frames ∧ 8 + (yc.2.2.1 + 11) + 40 * dc ≤ R.locals := ⟨Nat.le_trans hdc c2.1, by have := c2.2.1; omega⟩
  have hroom : cells + kc ≤ R.cells ∧ slots + nc ≤ R.slots := ⟨by have := c2.2.2.1; omega, by have := c2.2.2.2; omega⟩
  have hW8 : 2 * (F0 m pc ls ((As.reverse ++ Value.ref i :: rest).map (tv (adr N0 B)))).monitorRoom + ((rest.map (tv (adr N0 B))).map fun v => v.category).sum ≤ 8 := lv_room (by rw [cat_map]; exact hw)
  have hrc : ∃ cell : Cell, H[adr N0 B i]? = some cell ∧ cell.vm.isStatics = false ∧ s.vm.findClass yc.1.cls = some cell.cls := by
    rw [← hq]
    exact va_recv c7.1 c7.2.1 hc (wd_get hi hh)
  have hstk : (F0 m pc ls ((As.reverse ++ Value.ref i :: rest).map (tv (adr N0 B)))).stack = (As.map (tv (adr N0 B))).reverse ++ .ref (adr N0 B i) :: rest.map (tv (adr N0 B)) := by
    show (As.reverse ++ Value.ref i :: rest).map (tv (adr N0 B)) = _
    rw [List.map_append, List.map_reverse]
    rfl
  have hp : PreV s H yc.1.cls (adr N0 B i) (PI N0 B D ca tys h (.ref i :: As)) (As.map (tv (adr N0 B))) := ⟨PI_blind, hrc, PI_at (vs := .ref i :: As) c7 c1.2.2.2.2.2.2.2.2 (Nat.le_trans c5 c6.1)⟩
  have hrun : va_Run p l e R s m args below meth c H locs cells slots kc nc (F0 m pc ls ((As.reverse ++ Value.ref i :: rest).map (tv (adr N0 B)))) (rest.map (tv (adr N0 B))) (EQ N0 B D Qc (Value.ref (adr N0 B i) :: As.map (tv (adr N0 B))).toArray) (AA N0) := by
    rcases g8 with g8 | ⟨host, g8⟩
    · exact va_runV ⟨c1.1, c1.2.1, c1.2.2.2.1, c1.2.2.2.2.1, hts⟩ hM ⟨callB_of np hts (gt_good yc g1) rfl rfl rfl (hts _ g2) (hts _ g8) g4 hR, hts _ g6, hts _ g7⟩ hp rfl (by rw [List.length_map]; exact hnp) c8.1 hstk hW8 hd hroom
    · exact va_runVN ⟨c1.1, c1.2.1, c1.2.2.2.1, c1.2.2.2.2.1, hts⟩ hM ⟨va_cnB np hts (gt_good yc g1) rfl rfl rfl (c1.2.2.2.2.2.2.2.2.1 _ _ _ _ g8) (hts _ g2) g4 hR, hts _ g6, hts _ g7⟩ hp rfl (by rw [List.length_map]; exact hnp) c8.1 hstk hW8 hd hroom
  refine run_go hrun c6 (fun r h' ca' tys' H' locs' hq' hI' hS' => ?_)
  have K2 := K r h' hq' p l e R s m args below meth c H' locs' (cells + kc) (slots + nc) mc ms N0 B D ca' tys' ls c1 c2 (by omega) (by omega) c5 hS' hI' c8
  rw [List.map_append] at K2
  cases r <;> exact K2
theorem E_callS {yc : MI} {idx np dc kc nc : Nat} {Qc : Option Value → HP → Prop} (As rest : List Value) (hd : decode y.2.1 pc = .ok (.invokestatic idx, 3)) (ok : okS y.1.cls idx yc np) (hst : st = As.reverse ++ rest) (hnp : As.length = np) (hl : (lg_sl As).length ≤ yc.2.2.1) (hw : (rest.map fun v => v.category).sum ≤ 8) (hC : EM yc dc kc nc As h Qc) (hdc : dc + 1 ≤ d) (hk : kc ≤ k) (hn : nc ≤ n) (K : ∀ r h', Qc r h' → E y d (k - kc) (n - nc) (pc + 3) lv (r.toList ++ rest) h' Q) : E y d k n pc lv st h Q := by
  intro p l e R s m args below meth c H locs cells slots mc ms N0 B D ca tys ls c1 c2 c3 c4 c5 c6 c7 c8
  obtain ⟨⟨g1, g2, g3, g4, g5⟩, g6, g8⟩ := ok
  have hts := c1.2.2.2.2.2.1
  have hM := met_of_E hC g3 hl l N0 B D ca tys
  subst hst
  have hR : dc + 1 ≤ R.frames ∧ 8 + (yc.2.2.1 + 11) + 40 * dc ≤ R.locals := ⟨Nat.le_trans hdc c2.1, by have := c2.2.1; omega⟩
  have hroom : cells + kc ≤ R.cells ∧ slots + nc ≤ R.slots := ⟨by have := c2.2.2.1; omega, by have := c2.2.2.2; omega⟩
  have hW8 : 2 * (F0 m pc ls ((As.reverse ++ rest).map (tv (adr N0 B)))).monitorRoom + ((rest.map (tv (adr N0 B))).map fun v => v.category).sum ≤ 8 := lv_room (by rw [cat_map]; exact hw)
  have hstk : (F0 m pc ls ((As.reverse ++ rest).map (tv (adr N0 B)))).stack = (As.map (tv (adr N0 B))).reverse ++ rest.map (tv (adr N0 B)) := by
    show (As.reverse ++ rest).map (tv (adr N0 B)) = _
    rw [List.map_append, List.map_reverse]
  have hp : PreS s H (PI N0 B D ca tys h As) (As.map (tv (adr N0 B))) := ⟨PI_blind, PI_at c7 c1.2.2.2.2.2.2.2.2 (Nat.le_trans c5 c6.1)⟩
  have hrun : va_Run p l e R s m args below meth c H locs cells slots kc nc (F0 m pc ls ((As.reverse ++ rest).map (tv (adr N0 B)))) (rest.map (tv (adr N0 B))) (EQ N0 B D Qc (As.map (tv (adr N0 B))).toArray) (AA N0) := by
    rcases g8 with g8 | ⟨host, g8⟩
    · exact va_runS ⟨c1.1, c1.2.1, c1.2.2.2.1, c1.2.2.2.2.1, hts⟩ hM ⟨callB_of np hts (gt_good yc g1) rfl rfl rfl (hts _ g2) (hts _ g8) g4 hR, hts _ g6⟩ hp rfl (by rw [List.length_map]; exact hnp) c8.1 hstk hW8 hd hroom
    · exact va_runSN ⟨c1.1, c1.2.1, c1.2.2.2.1, c1.2.2.2.2.1, hts⟩ hM ⟨va_cnB np hts (gt_good yc g1) rfl rfl rfl (c1.2.2.2.2.2.2.2.2.1 _ _ _ _ g8) (hts _ g2) g4 hR, hts _ g6, trivial⟩ hp rfl (by rw [List.length_map]; exact hnp) c8.1 hstk hW8 hd hroom
  refine run_go hrun c6 (fun r h' ca' tys' H' locs' hq' hI' hS' => ?_)
  have K2 := K r h' hq' p l e R s m args below meth c H' locs' (cells + kc) (slots + nc) mc ms N0 B D ca' tys' ls c1 c2 (by omega) (by omega) c5 hS' hI' c8
  rw [List.map_append] at K2
  cases r <;> exact K2
theorem E_callI {yc : MI} {idx np i dc kc nc : Nat} {Qc : Option Value → HP → Prop} (As rest : List Value) (hd : decode y.2.1 pc = .ok (.invokespecial idx, 3)) (ok : okI y.1.cls idx yc np) (hst : st = As.reverse ++ .ref i :: rest) (hnp : As.length = np) (hl : (lg_sl (.ref i :: As)).length ≤ yc.2.2.1) (hw : (rest.map fun v => v.category).sum ≤ 8) (hC : EM yc dc kc nc (.ref i :: As) h Qc) (hdc : dc + 1 ≤ d) (hk : kc ≤ k) (hn : nc ≤ n) (K : ∀ r h', Qc r h' → E y d (k - kc) (n - nc) (pc + 3) lv (r.toList ++ rest) h' Q) : E y d k n pc lv st h Q := by
  intro p l e R s m args below meth c H locs cells slots mc ms N0 B D ca tys ls c1 c2 c3 c4 c5 c6 c7 c8
  obtain ⟨⟨g1, g2, g3, g4, g5⟩, g9, g10, g6, g8⟩ := ok
  have hts := c1.2.2.2.2.2.1
  have hM := met_of_E hC g3 hl l N0 B D ca tys
  have hG := gt_good yc g1
  rw [g9] at hM hG
  subst hst
  have hR : dc + 1 ≤ R.frames ∧ 8 + (yc.2.2.1 + 11) + 40 * dc ≤ R.locals := ⟨Nat.le_trans hdc c2.1, by have := c2.2.1; omega⟩
  have hroom : cells + kc ≤ R.cells ∧ slots + nc ≤ R.slots := ⟨by have := c2.2.2.1; omega, by have := c2.2.2.2; omega⟩
  have hW8 : 2 * (F0 m pc ls ((As.reverse ++ Value.ref i :: rest).map (tv (adr N0 B)))).monitorRoom + ((rest.map (tv (adr N0 B))).map fun v => v.category).sum ≤ 8 := lv_room (by rw [cat_map]; exact hw)
  have hstk : (F0 m pc ls ((As.reverse ++ Value.ref i :: rest).map (tv (adr N0 B)))).stack = (As.map (tv (adr N0 B))).reverse ++ .ref (adr N0 B i) :: rest.map (tv (adr N0 B)) := by
    show (As.reverse ++ Value.ref i :: rest).map (tv (adr N0 B)) = _
    rw [List.map_append, List.map_reverse]
    rfl
  have hp : PreS s H (PI N0 B D ca tys h (.ref i :: As)) (.ref (adr N0 B i) :: As.map (tv (adr N0 B))) := ⟨PI_blind, PI_at (vs := .ref i :: As) c7 c1.2.2.2.2.2.2.2.2 (Nat.le_trans c5 c6.1)⟩
  have hrun : va_Run p l e R s m args below meth c H locs cells slots kc nc (F0 m pc ls ((As.reverse ++ Value.ref i :: rest).map (tv (adr N0 B)))) (rest.map (tv (adr N0 B))) (EQ N0 B D Qc (Value.ref (adr N0 B i) :: As.map (tv (adr N0 B))).toArray) (AA N0) := by
    rcases g8 with g8 | ⟨host, g8⟩
    · exact va_runI ⟨c1.1, c1.2.1, c1.2.2.2.1, c1.2.2.2.2.1, hts⟩ hM ⟨callB_of np hts hG rfl rfl rfl (hts _ g2) (hts _ g8) g4 hR, g10, hts _ g6⟩ hp rfl (by rw [List.length_map]; exact hnp) c8.1 hstk hW8 hd hroom
    · exact va_runIN ⟨c1.1, c1.2.1, c1.2.2.2.1, c1.2.2.2.2.1, hts⟩ hM ⟨va_cnB np hts hG rfl rfl rfl (c1.2.2.2.2.2.2.2.2.1 _ _ _ _ g8) (hts _ g2) g4 hR, g10, hts _ g6⟩ hp rfl (by rw [List.length_map]; exact hnp) c8.1 hstk hW8 hd hroom
  refine run_go hrun c6 (fun r h' ca' tys' H' locs' hq' hI' hS' => ?_)
  have K2 := K r h' hq' p l e R s m args below meth c H' locs' (cells + kc) (slots + nc) mc ms N0 B D ca' tys' ls c1 c2 (by omega) (by omega) c5 hS' hI' c8
  rw [List.map_append] at K2
  cases r <;> exact K2
end EC
end
section
/-! METHODS BY NAME, AND THE LINKS of fields, classes and calls: generated by wip/tools/genlinks.py -/
abbrev mBook_init : MI := (yX0_init, cX0_init, 1, none)
abbrev mDesk_within : MI := (yX10_within, cX10_within, 3, (some .boolean))
abbrev mDesk_isLetter : MI := (yX10_isLetter, cX10_isLetter, 1, (some .boolean))
abbrev mTape_lettersAlone : MI := (yX8_lettersAlone, cX8_lettersAlone, 2, (some .boolean))
abbrev mTape_isWord : MI := (yX8_isWord, cX8_isWord, 1, (some .boolean))
abbrev mTape_size : MI := (yX8_size, cX8_size, 1, (some .int))
abbrev mBook_has : MI := (yX0_has, cX0_has, 2, (some .boolean))
abbrev mBook_sizeOf : MI := (yX0_sizeOf, cX0_sizeOf, 2, (some .int))
abbrev mBook_signOf : MI := (yX0_signOf, cX0_signOf, 3, (some .int))
abbrev mBook_beginsWith : MI := (yX0_beginsWith, cX0_beginsWith, 5, (some .boolean))
abbrev mBook_find : MI := (yX0_find, cX0_find, 4, (some .int))
abbrev mTape_signAt : MI := (yX8_signAt, cX8_signAt, 2, (some .int))
abbrev mBook_add : MI := (yX0_add, cX0_add, 4, (some .int))
abbrev mBook_take : MI := (yX0_take, cX0_take, 4, (some .int))
abbrev mBook_size : MI := (yX0_size, cX0_size, 1, (some .int))
abbrev mBook_timesOf : MI := (yX0_timesOf, cX0_timesOf, 2, (some .int))
abbrev mChain_init : MI := (yX1_init, cX1_init, 3, none)
abbrev mChain_without : MI := (yX1_without, cX1_without, 4, (some (.object "SwitchDesk$Chain")))
abbrev mChain_signAt : MI := (yX1_signAt, cX1_signAt, 2, (some .int))
abbrev mFinder_init : MI := (yX2_init, cX2_init, 4, none)
abbrev mSheet_written : MI := (yX7_written, cX7_written, 3, (some .int))
abbrev mSheet_copyLast : MI := (yX7_copyLast, cX7_copyLast, 5, none)
abbrev mFinder_readWritten : MI := (yX2_readWritten, cX2_readWritten, 2, (some .int))
abbrev mFinder_isBetter : MI := (yX2_isBetter, cX2_isBetter, 4, (some .boolean))
abbrev mFinder_enlist : MI := (yX2_enlist, cX2_enlist, 4, none)
abbrev mFinder_seekForeseen : MI := (yX2_seekForeseen, cX2_seekForeseen, 3, none)
abbrev mTray_areNeighbours : MI := (yX9_areNeighbours, cX9_areNeighbours, 3, (some .boolean))
abbrev mFinder_slipsOf : MI := (yX2_slipsOf, cX2_slipsOf, 6, (some .int))
abbrev mFinder_seekOffered : MI := (yX2_seekOffered, cX2_seekOffered, 4, none)
abbrev mFinder_found : MI := (yX2_found, cX2_found, 1, (some .int))
abbrev mFinder_foundAt : MI := (yX2_foundAt, cX2_foundAt, 2, (some .int))
abbrev mTray_has : MI := (yX9_has, cX9_has, 2, (some .boolean))
abbrev mTray_firstIn : MI := (yX9_firstIn, cX9_firstIn, 2, (some .int))
abbrev mLamp_comeTo : MI := (yX3_comeTo, cX3_comeTo, 2, none)
abbrev mLamp_init : MI := (yX3_init, cX3_init, 3, none)
abbrev mNumbers_get : MI := (yX4_get, cX4_get, 2, (some .int))
abbrev mTray_behind : MI := (yX9_behind, cX9_behind, 2, (some .int))
abbrev mLamp_change : MI := (yX3_change, cX3_change, 2, none)
abbrev mLamp_pass : MI := (yX3_pass, cX3_pass, 5, (some .int))
abbrev mLamp_take : MI := (yX3_take, cX3_take, 2, (some .int))
abbrev mLamp_tell : MI := (yX3_tell, cX3_tell, 2, (some .int))
abbrev mNumbers_init : MI := (yX4_init, cX4_init, 1, none)
abbrev mNumbers_change : MI := (yX4_change, cX4_change, 3, (some .boolean))
abbrev mPlan_init : MI := (yX5_init, cX5_init, 3, none)
abbrev mShares_shareOf : MI := (yX6_shareOf, cX6_shareOf, 2, (some .int))
abbrev mPlan_isPart : MI := (yX5_isPart, cX5_isPart, 2, (some .boolean))
abbrev mPlan_leastOf : MI := (yX5_leastOf, cX5_leastOf, 3, (some .int))
abbrev mPlan_sumOf : MI := (yX5_sumOf, cX5_sumOf, 3, (some .int))
abbrev mPlan_costWith : MI := (yX5_costWith, cX5_costWith, 5, (some .int))
abbrev mPlan_firstEnd : MI := (yX5_firstEnd, cX5_firstEnd, 7, (some .int))
abbrev mPlan_solve : MI := (yX5_solve, cX5_solve, 6, (some .int))
abbrev mTray_groupOf : MI := (yX9_groupOf, cX9_groupOf, 2, (some .int))
abbrev mPlan_openAt : MI := (yX5_openAt, cX5_openAt, 6, (some .int))
abbrev mTray_kindOf : MI := (yX9_kindOf, cX9_kindOf, 2, (some .int))
abbrev mTray_hasValue : MI := (yX9_hasValue, cX9_hasValue, 1, (some .boolean))
abbrev mTray_takes : MI := (yX9_takes, cX9_takes, 2, (some .boolean))
abbrev mTray_add : MI := (yX9_add, cX9_add, 4, (some .int))
abbrev mPlan_build : MI := (yX5_build, cX5_build, 7, none)
abbrev mShares_init : MI := (yX6_init, cX6_init, 3, none)
abbrev mShares_change : MI := (yX6_change, cX6_change, 3, (some .boolean))
abbrev mTray_placeOf : MI := (yX9_placeOf, cX9_placeOf, 2, (some .int))
abbrev mShares_costOf : MI := (yX6_costOf, cX6_costOf, 5, (some .int))
abbrev mArrays_fill : MI := (yJ7_fill_53178, cJ7_fill_53178, 4, none)
abbrev mTray_size : MI := (yX9_size, cX9_size, 1, (some .int))
abbrev mTray_valueOf : MI := (yX9_valueOf, cX9_valueOf, 2, (some .int))
abbrev mShares_findLeasts : MI := (yX6_findLeasts, cX6_findLeasts, 5, none)
abbrev mShares_commonDivisor : MI := (yX6_commonDivisor, cX6_commonDivisor, 11, (some .long))
abbrev mShares_meanPart : MI := (yX6_meanPart, cX6_meanPart, 8, (some .long))
abbrev mSheet_init : MI := (yX7_init, cX7_init, 1, none)
abbrev mSheet_part : MI := (yX7_part, cX7_part, 2, (some (.object "SwitchDesk$Chain")))
abbrev mSheet_undoable : MI := (yX7_undoable, cX7_undoable, 1, (some .int))
abbrev mSheet_keep : MI := (yX7_keep, cX7_keep, 2, none)
abbrev mSheet_write : MI := (yX7_write, cX7_write, 2, none)
abbrev mSheet_dropLast : MI := (yX7_dropLast, cX7_dropLast, 1, none)
abbrev mSheet_speak : MI := (yX7_speak, cX7_speak, 1, none)
abbrev mSheet_complete : MI := (yX7_complete, cX7_complete, 7, none)
abbrev mSheet_takeBack : MI := (yX7_takeBack, cX7_takeBack, 2, none)
abbrev mTape_init : MI := (yX8_init, cX8_init, 1, none)
abbrev mTape_fedByte : MI := (yX8_fedByte, cX8_fedByte, 4, (some .int))
abbrev mTape_take : MI := (yX8_take, cX8_take, 6, (some .int))
abbrev mTape_cut : MI := (yX8_cut, cX8_cut, 2, (some .boolean))
abbrev mTape_isRow : MI := (yX8_isRow, cX8_isRow, 4, (some .boolean))
abbrev mTray_empty : MI := (yX9_empty, cX9_empty, 1, none)
abbrev mTray_findLighted : MI := (yX9_findLighted, cX9_findLighted, 2, none)
abbrev mTray_join : MI := (yX9_join, cX9_join, 5, none)
abbrev mTray_standBehind : MI := (yX9_standBehind, cX9_standBehind, 4, none)
abbrev mTray_findLights : MI := (yX9_findLights, cX9_findLights, 2, none)
abbrev mTray_init : MI := (yX9_init, cX9_init, 1, none)
abbrev mTray_lightsOf : MI := (yX9_lightsOf, cX9_lightsOf, 2, (some .int))
abbrev mDesk_init : MI := (yX10_init, cX10_init, 1, none)
abbrev mDesk_showTrayAnew : MI := (yX10_showTrayAnew, cX10_showTrayAnew, 1, none)
abbrev mDesk_node : MI := (yX10_node, cX10_node, 5, (some .int))
abbrev mDesk_clear : MI := (yX10_clear, cX10_clear, 1, none)
abbrev mDesk_told : MI := (yX10_told, cX10_told, 3, (some .int))
abbrev mDesk_set : MI := (yX10_set, cX10_set, 3, (some .boolean))
abbrev mDesk_tick : MI := (yX10_tick, cX10_tick, 2, (some .int))
abbrev mDesk_act : MI := (yX10_act, cX10_act, 3, none)
abbrev mDesk_press : MI := (yX10_press, cX10_press, 2, (some .int))
abbrev mDesk_state : MI := (yX10_state, cX10_state, 2, (some .int))
abbrev mDesk_length : MI := (yX10_length, cX10_length, 3, (some .int))
abbrev mDesk_at : MI := (yX10_at, cX10_at, 4, (some .int))
abbrev mDesk_feed : MI := (yX10_feed, cX10_feed, 3, (some .int))
abbrev mDesk_end : MI := (yX10_end, cX10_end, 2, (some .boolean))
abbrev mDesk_word : MI := (yX10_word, cX10_word, 3, (some .int))
abbrev mDesk_letter : MI := (yX10_letter, cX10_letter, 3, (some .int))
abbrev mDesk_foreseen : MI := (yX10_foreseen, cX10_foreseen, 2, (some .int))
abbrev mDesk_offered : MI := (yX10_offered, cX10_offered, 2, (some .int))
abbrev mDesk_near : MI := (yX10_near, cX10_near, 3, (some .int))
abbrev mDesk_share : MI := (yX10_share, cX10_share, 3, (some .boolean))
abbrev mDesk_cost : MI := (yX10_cost, cX10_cost, 2, (some .int))
abbrev mDesk_mean : MI := (yX10_mean, cX10_mean, 2, (some .long))
abbrev mDesk_lay : MI := (yX10_lay, cX10_lay, 2, (some .int))
abbrev mDesk_count : MI := (yX10_count, cX10_count, 2, (some .int))
abbrev mMod_looks : MI := (yX11_looks, cX11_looks, 3, none)
abbrev mMod_init : MI := (yX11_init, cX11_init, 1, none)
abbrev mMod_thrown : MI := (yX11_thrown, cX11_thrown, 1, (some .int))
abbrev mMod_isIn : MI := (yX11_isIn, cX11_isIn, 3, (some .boolean))
abbrev mMod_isNode : MI := (yX11_isNode, cX11_isNode, 2, (some .boolean))
abbrev mMod_isSmall : MI := (yX11_isSmall, cX11_isSmall, 1, (some .boolean))
abbrev mMod_hasKey : MI := (yX11_hasKey, cX11_hasKey, 2, (some .boolean))
abbrev mMod_light : MI := (yX11_light, cX11_light, 3, (some .int))
abbrev mMod_lights : MI := (yX11_lights, cX11_lights, 2, (some .int))
abbrev mMod_placeOf : MI := (yX11_placeOf, cX11_placeOf, 2, (some .int))
abbrev mMod_comes : MI := (yX11_comes, cX11_comes, 2, none)
abbrev mMod_adds : MI := (yX11_adds, cX11_adds, 4, (some .int))
abbrev mMod_node : MI := (yX11_node, cX11_node, 5, (some .int))
abbrev mMod_clear : MI := (yX11_clear, cX11_clear, 1, none)
abbrev mMod_told : MI := (yX11_told, cX11_told, 3, (some .int))
abbrev mMod_set : MI := (yX11_set, cX11_set, 5, (some .boolean))
abbrev mMod_ticks : MI := (yX11_ticks, cX11_ticks, 2, none)
abbrev mMod_tick : MI := (yX11_tick, cX11_tick, 3, (some .int))
abbrev mMod_keep : MI := (yX11_keep, cX11_keep, 2, none)
abbrev mMod_put : MI := (yX11_put, cX11_put, 2, none)
abbrev mMod_undo : MI := (yX11_undo, cX11_undo, 2, none)
abbrev mMod_written : MI := (yX11_written, cX11_written, 2, (some .int))
abbrev mMod_ranked : MI := (yX11_ranked, cX11_ranked, 5, (some .int))
abbrev mMod_foreseenAt : MI := (yX11_foreseenAt, cX11_foreseenAt, 6, (some .int))
abbrev mMod_areNear : MI := (yX11_areNear, cX11_areNear, 5, (some .boolean))
abbrev mMod_offeredAt : MI := (yX11_offeredAt, cX11_offeredAt, 10, (some .int))
abbrev mMod_acts : MI := (yX11_acts, cX11_acts, 5, none)
abbrev mMod_press : MI := (yX11_press, cX11_press, 3, (some .int))
abbrev mMod_state : MI := (yX11_state, cX11_state, 2, (some .int))
abbrev mMod_length : MI := (yX11_length, cX11_length, 2, (some .int))
abbrev mMod_at : MI := (yX11_at, cX11_at, 3, (some .int))
abbrev mMod_bytesIn : MI := (yX11_bytesIn, cX11_bytesIn, 3, (some .int))
abbrev mMod_feed : MI := (yX11_feed, cX11_feed, 6, (some .int))
abbrev mMod_end : MI := (yX11_end, cX11_end, 2, (some .boolean))
abbrev mMod_isRow : MI := (yX11_isRow, cX11_isRow, 3, (some .boolean))
abbrev mMod_isWord : MI := (yX11_isWord, cX11_isWord, 4, (some .boolean))
abbrev mMod_word : MI := (yX11_word, cX11_word, 4, (some .int))
abbrev mMod_letter : MI := (yX11_letter, cX11_letter, 3, (some .int))
abbrev mMod_near : MI := (yX11_near, cX11_near, 3, (some .int))
abbrev mMod_foreseen : MI := (yX11_foreseen, cX11_foreseen, 2, (some .int))
abbrev mMod_offered : MI := (yX11_offered, cX11_offered, 2, (some .int))
abbrev mMod_share : MI := (yX11_share, cX11_share, 3, (some .boolean))
abbrev mMod_costOf : MI := (yX11_costOf, cX11_costOf, 4, (some .int))
abbrev mMod_cost : MI := (yX11_cost, cX11_cost, 2, (some .int))
abbrev mMod_mean : MI := (yX11_mean, cX11_mean, 12, (some .long))
abbrev mMod_weight : MI := (yX11_weight, cX11_weight, 6, (some .long))
abbrev mMod_index : MI := (yX11_index, cX11_index, 3, (some .int))
abbrev mMod_item : MI := (yX11_item, cX11_item, 4, (some .long))
abbrev mMod_sums : MI := (yX11_sums, cX11_sums, 9, none)
abbrev mMod_lays : MI := (yX11_lays, cX11_lays, 13, none)
abbrev mMod_lay : MI := (yX11_lay, cX11_lay, 3, (some .int))
abbrev mMod_count : MI := (yX11_count, cX11_count, 3, (some .int))
abbrev mMath_max : MI := (yJ9_max_7cf53, cJ9_max_7cf53, 2, (some .int))
abbrev mMath_min : MI := (yJ9_min_7cf53, cJ9_min_7cf53, 2, (some .int))
abbrev mMath_lmin : MI := (yJ9_min_f86c9, cJ9_min_f86c9, 4, (some .long))
abbrev mLaw_law : MI := (yL_law, cL_law, 7, ret)
abbrev mLaw_at : MI := (yL_at, cL_at, 5, some .int)
abbrev mLaw_letter : MI := (yL_letter, cL_letter, 5, some .int)
theorem lay_good (C : String) (T : u_T) (j : Nat) : goodWord (u_lay C T j) = true := by
  unfold u_lay
  split <;> rfl
theorem lays_in {C : String} {T : u_T} {N : Nat} (h : ∀ w ∈ u_ws C T N, w ∈ lw_tbl) : ∀ w ∈ u_ws C T N, w ∈ GT := fun w hw => by
  obtain ⟨j, -, rfl⟩ := List.mem_map.mp hw
  exact List.mem_filter.mpr ⟨h _ hw, lay_good C T j⟩
theorem nst_in {w : Cond} (i : Nat) (h : tables_1[i]? = some w) : w ∈ lw_tbl := List.mem_append_right _ (List.mem_of_getElem? h)
theorem ly_X0 : ∀ w ∈ u_ws RX0 TX0 4, w ∈ GT := lays_in (by decide +kernel)
theorem oc_X0 : okC 0 tyX0 := fun C T N hc => by
  have h9 : (RX0, TX0, 4) = (C, T, N) := Option.some.inj hc
  cases h9
  exact ⟨nmX0, tyX0_ok⟩
theorem ly_X1 : ∀ w ∈ u_ws RX1 TX1 3, w ∈ GT := lays_in (by decide +kernel)
theorem oc_X1 : okC 1 tyX1 := fun C T N hc => by
  have h9 : (RX1, TX1, 3) = (C, T, N) := Option.some.inj hc
  cases h9
  exact ⟨nmX1, tyX1_ok⟩
theorem ly_X2 : ∀ w ∈ u_ws RX2 TX2 7, w ∈ GT := lays_in (by decide +kernel)
theorem oc_X2 : okC 2 tyX2 := fun C T N hc => by
  have h9 : (RX2, TX2, 7) = (C, T, N) := Option.some.inj hc
  cases h9
  exact ⟨nmX2, tyX2_ok⟩
theorem ly_X3 : ∀ w ∈ u_ws RX3 TX3 10, w ∈ GT := lays_in (by decide +kernel)
theorem oc_X3 : okC 3 tyX3 := fun C T N hc => by
  have h9 : (RX3, TX3, 10) = (C, T, N) := Option.some.inj hc
  cases h9
  exact ⟨nmX3, tyX3_ok⟩
theorem ly_X4 : ∀ w ∈ u_ws RX4 TX4 1, w ∈ GT := lays_in (by decide +kernel)
theorem oc_X4 : okC 4 tyX4 := fun C T N hc => by
  have h9 : (RX4, TX4, 1) = (C, T, N) := Option.some.inj hc
  cases h9
  exact ⟨nmX4, tyX4_ok⟩
theorem ly_X5 : ∀ w ∈ u_ws RX5 TX5 5, w ∈ GT := lays_in (by decide +kernel)
theorem oc_X5 : okC 5 tyX5 := fun C T N hc => by
  have h9 : (RX5, TX5, 5) = (C, T, N) := Option.some.inj hc
  cases h9
  exact ⟨nmX5, tyX5_ok⟩
theorem ly_X6 : ∀ w ∈ u_ws RX6 TX6 4, w ∈ GT := lays_in (by decide +kernel)
theorem oc_X6 : okC 6 tyX6 := fun C T N hc => by
  have h9 : (RX6, TX6, 4) = (C, T, N) := Option.some.inj hc
  cases h9
  exact ⟨nmX6, tyX6_ok⟩
theorem ly_X7 : ∀ w ∈ u_ws RX7 TX7 7, w ∈ GT := lays_in (by decide +kernel)
theorem oc_X7 : okC 7 tyX7 := fun C T N hc => by
  have h9 : (RX7, TX7, 7) = (C, T, N) := Option.some.inj hc
  cases h9
  exact ⟨nmX7, tyX7_ok⟩
theorem ly_X8 : ∀ w ∈ u_ws RX8 TX8 2, w ∈ GT := lays_in (by decide +kernel)
theorem oc_X8 : okC 8 tyX8 := fun C T N hc => by
  have h9 : (RX8, TX8, 2) = (C, T, N) := Option.some.inj hc
  cases h9
  exact ⟨nmX8, tyX8_ok⟩
theorem ly_X9 : ∀ w ∈ u_ws RX9 TX9 11, w ∈ GT := lays_in (by decide +kernel)
theorem oc_X9 : okC 9 tyX9 := fun C T N hc => by
  have h9 : (RX9, TX9, 11) = (C, T, N) := Option.some.inj hc
  cases h9
  exact ⟨nmX9, tyX9_ok⟩
theorem ly_X10 : ∀ w ∈ u_ws RX10 TX10 9, w ∈ GT := lays_in (by decide +kernel)
theorem oc_X10 : okC 10 tyX10 := fun C T N hc => by
  have h9 : (RX10, TX10, 9) = (C, T, N) := Option.some.inj hc
  cases h9
  exact ⟨nmX10, tyX10_ok⟩
theorem ly_X11 : ∀ w ∈ u_ws RX11 TX11 38, w ∈ GT := lays_in (by decide +kernel)
theorem oc_X11 : okC 11 tyX11 := fun C T N hc => by
  have h9 : (RX11, TX11, 38) = (C, T, N) := Option.some.inj hc
  cases h9
  exact ⟨nmX11, tyX11_ok⟩
theorem nw_L_19 : okW RL 19 11 38 tyX11 := ⟨RX11, TX11, rfl, ly_X11, oc_X11, gt_in 818 (by decide +kernel) rfl, gt_in 819 (by decide +kernel) rfl, gt_in 13 (by decide +kernel) rfl⟩
theorem nw_L_8 : okW RL 8 10 9 tyX10 := ⟨RX10, TX10, rfl, ly_X10, oc_X10, gt_in 19 (by decide +kernel) rfl, gt_in 20 (by decide +kernel) rfl, gt_in 1 (by decide +kernel) rfl⟩
theorem fl_X0_11 : okF RX0 11 0 0 := ⟨RX0, TX0, 4, rfl, by decide, ly_X0, gt_in 223 (by decide +kernel) rfl⟩
theorem fl_X0_15 : okF RX0 15 0 1 := ⟨RX0, TX0, 4, rfl, by decide, ly_X0, gt_in 224 (by decide +kernel) rfl⟩
theorem fl_X0_18 : okF RX0 18 0 2 := ⟨RX0, TX0, 4, rfl, by decide, ly_X0, gt_in 225 (by decide +kernel) rfl⟩
theorem fl_X0_31 : okN RX0 31 8 0 := ⟨RX8, TX8, 2, "SwitchDesk", rfl, by decide, ly_X8, nst_in 210 (by decide +kernel)⟩
theorem fl_X0_48 : okF RX0 48 0 3 := ⟨RX0, TX0, 4, rfl, by decide, ly_X0, gt_in 226 (by decide +kernel) rfl⟩
theorem ob_X0_3 : Cond.methodLink RX0 3 Lib.objectInit ∈ GT := gt_in 222 (by decide +kernel) rfl
theorem fp_X0_11 : okP RX0 11 0 0 (.array .int) true := ⟨RX0, TX0, 4, tyX0, rfl, by decide, ly_X0, gt_in 223 (by decide +kernel) rfl, oc_X0, rfl, rfl, fun _ => rfl⟩
theorem fp_X0_15 : okP RX0 15 0 1 (.array .int) true := ⟨RX0, TX0, 4, tyX0, rfl, by decide, ly_X0, gt_in 224 (by decide +kernel) rfl, oc_X0, rfl, rfl, fun _ => rfl⟩
theorem fp_X0_18 : okP RX0 18 0 2 (.array .int) true := ⟨RX0, TX0, 4, tyX0, rfl, by decide, ly_X0, gt_in 225 (by decide +kernel) rfl, oc_X0, rfl, rfl, fun _ => rfl⟩
theorem fp_X0_48 : okP RX0 48 0 3 .int false := ⟨RX0, TX0, 4, tyX0, rfl, by decide, ly_X0, gt_in 226 (by decide +kernel) rfl, oc_X0, rfl, rfl, fun _ => rfl⟩
theorem fl_X1_13 : okF RX1 13 1 1 := ⟨RX1, TX1, 3, rfl, by decide, ly_X1, gt_in 168 (by decide +kernel) rfl⟩
theorem fl_X1_17 : okF RX1 17 1 2 := ⟨RX1, TX1, 3, rfl, by decide, ly_X1, gt_in 170 (by decide +kernel) rfl⟩
theorem fl_X1_7 : okF RX1 7 1 0 := ⟨RX1, TX1, 3, rfl, by decide, ly_X1, gt_in 166 (by decide +kernel) rfl⟩
theorem ob_X1_1 : Cond.methodLink RX1 1 Lib.objectInit ∈ GT := gt_in 165 (by decide +kernel) rfl
theorem fp_X1_13 : okP RX1 13 1 1 .int true := ⟨RX1, TX1, 3, tyX1, rfl, by decide, ly_X1, gt_in 168 (by decide +kernel) rfl, oc_X1, rfl, rfl, fun _ => rfl⟩
theorem fp_X1_17 : okP RX1 17 1 2 .int true := ⟨RX1, TX1, 3, tyX1, rfl, by decide, ly_X1, gt_in 170 (by decide +kernel) rfl, oc_X1, rfl, rfl, fun _ => rfl⟩
theorem fp_X1_7 : okP RX1 7 1 0 (.object "SwitchDesk$Chain") true := ⟨RX1, TX1, 3, tyX1, rfl, by decide, ly_X1, gt_in 166 (by decide +kernel) rfl, oc_X1, rfl, rfl, fun _ => rfl⟩
theorem fl_X10_10 : okF RX10 10 10 0 := ⟨RX10, TX10, 9, rfl, by decide, ly_X10, gt_in 305 (by decide +kernel) rfl⟩
theorem fl_X10_136 : okF RX10 136 1 2 := ⟨RX1, TX1, 3, rfl, by decide, ly_X1, gt_in 172 (by decide +kernel) rfl⟩
theorem fl_X10_19 : okF RX10 19 10 1 := ⟨RX10, TX10, 9, rfl, by decide, ly_X10, gt_in 306 (by decide +kernel) rfl⟩
theorem fl_X10_28 : okF RX10 28 10 2 := ⟨RX10, TX10, 9, rfl, by decide, ly_X10, gt_in 307 (by decide +kernel) rfl⟩
theorem fl_X10_35 : okF RX10 35 10 3 := ⟨RX10, TX10, 9, rfl, by decide, ly_X10, gt_in 308 (by decide +kernel) rfl⟩
theorem fl_X10_42 : okF RX10 42 10 4 := ⟨RX10, TX10, 9, rfl, by decide, ly_X10, gt_in 309 (by decide +kernel) rfl⟩
theorem fl_X10_49 : okF RX10 49 10 5 := ⟨RX10, TX10, 9, rfl, by decide, ly_X10, gt_in 310 (by decide +kernel) rfl⟩
theorem fl_X10_58 : okF RX10 58 10 6 := ⟨RX10, TX10, 9, rfl, by decide, ly_X10, gt_in 311 (by decide +kernel) rfl⟩
theorem fl_X10_65 : okF RX10 65 10 7 := ⟨RX10, TX10, 9, rfl, by decide, ly_X10, gt_in 312 (by decide +kernel) rfl⟩
theorem fl_X10_74 : okF RX10 74 10 8 := ⟨RX10, TX10, 9, rfl, by decide, ly_X10, gt_in 313 (by decide +kernel) rfl⟩
theorem ob_X10_1 : Cond.methodLink RX10 1 Lib.objectInit ∈ GT := gt_in 24 (by decide +kernel) rfl
theorem nw_X10_16 : okW RX10 16 9 11 tyX9 := ⟨RX9, TX9, rfl, ly_X9, oc_X9, gt_in 38 (by decide +kernel) rfl, gt_in 39 (by decide +kernel) rfl, gt_in 3 (by decide +kernel) rfl⟩
theorem nw_X10_23 : okW RX10 23 3 10 tyX3 := ⟨RX3, TX3, rfl, ly_X3, oc_X3, gt_in 109 (by decide +kernel) rfl, gt_in 110 (by decide +kernel) rfl, gt_in 5 (by decide +kernel) rfl⟩
theorem nw_X10_32 : okW RX10 32 7 7 tyX7 := ⟨RX7, TX7, rfl, ly_X7, oc_X7, gt_in 154 (by decide +kernel) rfl, gt_in 155 (by decide +kernel) rfl, gt_in 6 (by decide +kernel) rfl⟩
theorem nw_X10_39 : okW RX10 39 8 2 tyX8 := ⟨RX8, TX8, rfl, ly_X8, oc_X8, gt_in 203 (by decide +kernel) rfl, gt_in 204 (by decide +kernel) rfl, gt_in 8 (by decide +kernel) rfl⟩
theorem nw_X10_46 : okW RX10 46 0 4 tyX0 := ⟨RX0, TX0, rfl, ly_X0, oc_X0, gt_in 217 (by decide +kernel) rfl, gt_in 218 (by decide +kernel) rfl, gt_in 9 (by decide +kernel) rfl⟩
theorem nw_X10_53 : okW RX10 53 2 7 tyX2 := ⟨RX2, TX2, rfl, ly_X2, oc_X2, gt_in 236 (by decide +kernel) rfl, gt_in 237 (by decide +kernel) rfl, gt_in 10 (by decide +kernel) rfl⟩
theorem nw_X10_62 : okW RX10 62 6 4 tyX6 := ⟨RX6, TX6, rfl, ly_X6, oc_X6, gt_in 264 (by decide +kernel) rfl, gt_in 265 (by decide +kernel) rfl, gt_in 11 (by decide +kernel) rfl⟩
theorem nw_X10_69 : okW RX10 69 5 5 tyX5 := ⟨RX5, TX5, rfl, ly_X5, oc_X5, gt_in 283 (by decide +kernel) rfl, gt_in 284 (by decide +kernel) rfl, gt_in 12 (by decide +kernel) rfl⟩
theorem nw_X10_7 : okW RX10 7 4 1 tyX4 := ⟨RX4, TX4, rfl, ly_X4, oc_X4, gt_in 27 (by decide +kernel) rfl, gt_in 28 (by decide +kernel) rfl, gt_in 2 (by decide +kernel) rfl⟩
theorem fp_X10_10 : okP RX10 10 10 0 (.object "SwitchDesk$Numbers") true := ⟨RX10, TX10, 9, tyX10, rfl, by decide, ly_X10, gt_in 305 (by decide +kernel) rfl, oc_X10, rfl, rfl, fun _ => rfl⟩
theorem fp_X10_19 : okP RX10 19 10 1 (.object "SwitchDesk$Tray") true := ⟨RX10, TX10, 9, tyX10, rfl, by decide, ly_X10, gt_in 306 (by decide +kernel) rfl, oc_X10, rfl, rfl, fun _ => rfl⟩
theorem fp_X10_28 : okP RX10 28 10 2 (.object "SwitchDesk$Lamp") true := ⟨RX10, TX10, 9, tyX10, rfl, by decide, ly_X10, gt_in 307 (by decide +kernel) rfl, oc_X10, rfl, rfl, fun _ => rfl⟩
theorem fp_X10_35 : okP RX10 35 10 3 (.object "SwitchDesk$Sheet") true := ⟨RX10, TX10, 9, tyX10, rfl, by decide, ly_X10, gt_in 308 (by decide +kernel) rfl, oc_X10, rfl, rfl, fun _ => rfl⟩
theorem fp_X10_42 : okP RX10 42 10 4 (.object "SwitchDesk$Tape") true := ⟨RX10, TX10, 9, tyX10, rfl, by decide, ly_X10, gt_in 309 (by decide +kernel) rfl, oc_X10, rfl, rfl, fun _ => rfl⟩
theorem fp_X10_49 : okP RX10 49 10 5 (.object "SwitchDesk$Book") true := ⟨RX10, TX10, 9, tyX10, rfl, by decide, ly_X10, gt_in 310 (by decide +kernel) rfl, oc_X10, rfl, rfl, fun _ => rfl⟩
theorem fp_X10_58 : okP RX10 58 10 6 (.object "SwitchDesk$Finder") true := ⟨RX10, TX10, 9, tyX10, rfl, by decide, ly_X10, gt_in 311 (by decide +kernel) rfl, oc_X10, rfl, rfl, fun _ => rfl⟩
theorem fp_X10_65 : okP RX10 65 10 7 (.object "SwitchDesk$Shares") true := ⟨RX10, TX10, 9, tyX10, rfl, by decide, ly_X10, gt_in 312 (by decide +kernel) rfl, oc_X10, rfl, rfl, fun _ => rfl⟩
theorem fp_X10_74 : okP RX10 74 10 8 (.object "SwitchDesk$Plan") true := ⟨RX10, TX10, 9, tyX10, rfl, by decide, ly_X10, gt_in 313 (by decide +kernel) rfl, oc_X10, rfl, rfl, fun _ => rfl⟩
theorem fl_X11_101 : okF RX11 101 11 11 := ⟨RX11, TX11, 38, rfl, by decide, ly_X11, gt_in 839 (by decide +kernel) rfl⟩
theorem fl_X11_104 : okF RX11 104 11 12 := ⟨RX11, TX11, 38, rfl, by decide, ly_X11, gt_in 840 (by decide +kernel) rfl⟩
theorem fl_X11_107 : okF RX11 107 11 10 := ⟨RX11, TX11, 38, rfl, by decide, ly_X11, gt_in 838 (by decide +kernel) rfl⟩
theorem fl_X11_110 : okF RX11 110 11 14 := ⟨RX11, TX11, 38, rfl, by decide, ly_X11, gt_in 842 (by decide +kernel) rfl⟩
theorem fl_X11_113 : okF RX11 113 11 15 := ⟨RX11, TX11, 38, rfl, by decide, ly_X11, gt_in 843 (by decide +kernel) rfl⟩
theorem fl_X11_13 : okF RX11 13 11 2 := ⟨RX11, TX11, 38, rfl, by decide, ly_X11, gt_in 830 (by decide +kernel) rfl⟩
theorem fl_X11_150 : okF RX11 150 11 16 := ⟨RX11, TX11, 38, rfl, by decide, ly_X11, gt_in 844 (by decide +kernel) rfl⟩
theorem fl_X11_156 : okF RX11 156 11 26 := ⟨RX11, TX11, 38, rfl, by decide, ly_X11, gt_in 854 (by decide +kernel) rfl⟩
theorem fl_X11_159 : okF RX11 159 11 24 := ⟨RX11, TX11, 38, rfl, by decide, ly_X11, gt_in 852 (by decide +kernel) rfl⟩
theorem fl_X11_16 : okF RX11 16 11 3 := ⟨RX11, TX11, 38, rfl, by decide, ly_X11, gt_in 831 (by decide +kernel) rfl⟩
theorem fl_X11_181 : okF RX11 181 11 31 := ⟨RX11, TX11, 38, rfl, by decide, ly_X11, gt_in 859 (by decide +kernel) rfl⟩
theorem fl_X11_19 : okF RX11 19 11 4 := ⟨RX11, TX11, 38, rfl, by decide, ly_X11, gt_in 832 (by decide +kernel) rfl⟩
theorem fl_X11_191 : okF RX11 191 11 32 := ⟨RX11, TX11, 38, rfl, by decide, ly_X11, gt_in 860 (by decide +kernel) rfl⟩
theorem fl_X11_22 : okF RX11 22 11 5 := ⟨RX11, TX11, 38, rfl, by decide, ly_X11, gt_in 833 (by decide +kernel) rfl⟩
theorem fl_X11_26 : okF RX11 26 11 6 := ⟨RX11, TX11, 38, rfl, by decide, ly_X11, gt_in 834 (by decide +kernel) rfl⟩
theorem fl_X11_30 : okF RX11 30 11 7 := ⟨RX11, TX11, 38, rfl, by decide, ly_X11, gt_in 835 (by decide +kernel) rfl⟩
theorem fl_X11_33 : okF RX11 33 11 8 := ⟨RX11, TX11, 38, rfl, by decide, ly_X11, gt_in 836 (by decide +kernel) rfl⟩
theorem fl_X11_36 : okF RX11 36 11 9 := ⟨RX11, TX11, 38, rfl, by decide, ly_X11, gt_in 837 (by decide +kernel) rfl⟩
theorem fl_X11_39 : okF RX11 39 11 13 := ⟨RX11, TX11, 38, rfl, by decide, ly_X11, gt_in 841 (by decide +kernel) rfl⟩
theorem fl_X11_42 : okF RX11 42 11 17 := ⟨RX11, TX11, 38, rfl, by decide, ly_X11, gt_in 845 (by decide +kernel) rfl⟩
theorem fl_X11_45 : okF RX11 45 11 18 := ⟨RX11, TX11, 38, rfl, by decide, ly_X11, gt_in 846 (by decide +kernel) rfl⟩
theorem fl_X11_49 : okF RX11 49 11 19 := ⟨RX11, TX11, 38, rfl, by decide, ly_X11, gt_in 847 (by decide +kernel) rfl⟩
theorem fl_X11_52 : okF RX11 52 11 20 := ⟨RX11, TX11, 38, rfl, by decide, ly_X11, gt_in 848 (by decide +kernel) rfl⟩
theorem fl_X11_55 : okF RX11 55 11 21 := ⟨RX11, TX11, 38, rfl, by decide, ly_X11, gt_in 849 (by decide +kernel) rfl⟩
theorem fl_X11_58 : okF RX11 58 11 22 := ⟨RX11, TX11, 38, rfl, by decide, ly_X11, gt_in 850 (by decide +kernel) rfl⟩
theorem fl_X11_61 : okF RX11 61 11 23 := ⟨RX11, TX11, 38, rfl, by decide, ly_X11, gt_in 851 (by decide +kernel) rfl⟩
theorem fl_X11_64 : okF RX11 64 11 25 := ⟨RX11, TX11, 38, rfl, by decide, ly_X11, gt_in 853 (by decide +kernel) rfl⟩
theorem fl_X11_67 : okF RX11 67 11 27 := ⟨RX11, TX11, 38, rfl, by decide, ly_X11, gt_in 855 (by decide +kernel) rfl⟩
theorem fl_X11_70 : okF RX11 70 11 28 := ⟨RX11, TX11, 38, rfl, by decide, ly_X11, gt_in 856 (by decide +kernel) rfl⟩
theorem fl_X11_73 : okF RX11 73 11 29 := ⟨RX11, TX11, 38, rfl, by decide, ly_X11, gt_in 857 (by decide +kernel) rfl⟩
theorem fl_X11_76 : okF RX11 76 11 30 := ⟨RX11, TX11, 38, rfl, by decide, ly_X11, gt_in 858 (by decide +kernel) rfl⟩
theorem fl_X11_79 : okF RX11 79 11 33 := ⟨RX11, TX11, 38, rfl, by decide, ly_X11, gt_in 861 (by decide +kernel) rfl⟩
theorem fl_X11_82 : okF RX11 82 11 34 := ⟨RX11, TX11, 38, rfl, by decide, ly_X11, gt_in 862 (by decide +kernel) rfl⟩
theorem fl_X11_85 : okF RX11 85 11 35 := ⟨RX11, TX11, 38, rfl, by decide, ly_X11, gt_in 863 (by decide +kernel) rfl⟩
theorem fl_X11_89 : okF RX11 89 11 36 := ⟨RX11, TX11, 38, rfl, by decide, ly_X11, gt_in 864 (by decide +kernel) rfl⟩
theorem fl_X11_9 : okF RX11 9 11 1 := ⟨RX11, TX11, 38, rfl, by decide, ly_X11, gt_in 829 (by decide +kernel) rfl⟩
theorem fl_X11_92 : okF RX11 92 11 37 := ⟨RX11, TX11, 38, rfl, by decide, ly_X11, gt_in 865 (by decide +kernel) rfl⟩
theorem fl_X11_98 : okF RX11 98 11 0 := ⟨RX11, TX11, 38, rfl, by decide, ly_X11, gt_in 828 (by decide +kernel) rfl⟩
theorem ob_X11_3 : Cond.methodLink RX11 3 Lib.objectInit ∈ GT := gt_in 823 (by decide +kernel) rfl
theorem fp_X11_101 : okP RX11 101 11 11 .int false := ⟨RX11, TX11, 38, tyX11, rfl, by decide, ly_X11, gt_in 839 (by decide +kernel) rfl, oc_X11, rfl, rfl, fun _ => rfl⟩
theorem fp_X11_104 : okP RX11 104 11 12 .int false := ⟨RX11, TX11, 38, tyX11, rfl, by decide, ly_X11, gt_in 840 (by decide +kernel) rfl, oc_X11, rfl, rfl, fun _ => rfl⟩
theorem fp_X11_107 : okP RX11 107 11 10 .int false := ⟨RX11, TX11, 38, tyX11, rfl, by decide, ly_X11, gt_in 838 (by decide +kernel) rfl, oc_X11, rfl, rfl, fun _ => rfl⟩
theorem fp_X11_110 : okP RX11 110 11 14 .int false := ⟨RX11, TX11, 38, tyX11, rfl, by decide, ly_X11, gt_in 842 (by decide +kernel) rfl, oc_X11, rfl, rfl, fun _ => rfl⟩
theorem fp_X11_113 : okP RX11 113 11 15 .int false := ⟨RX11, TX11, 38, tyX11, rfl, by decide, ly_X11, gt_in 843 (by decide +kernel) rfl, oc_X11, rfl, rfl, fun _ => rfl⟩
theorem fp_X11_13 : okP RX11 13 11 2 (.array .int) true := ⟨RX11, TX11, 38, tyX11, rfl, by decide, ly_X11, gt_in 830 (by decide +kernel) rfl, oc_X11, rfl, rfl, fun _ => rfl⟩
theorem fp_X11_150 : okP RX11 150 11 16 .int false := ⟨RX11, TX11, 38, tyX11, rfl, by decide, ly_X11, gt_in 844 (by decide +kernel) rfl, oc_X11, rfl, rfl, fun _ => rfl⟩
theorem fp_X11_156 : okP RX11 156 11 26 .int false := ⟨RX11, TX11, 38, tyX11, rfl, by decide, ly_X11, gt_in 854 (by decide +kernel) rfl, oc_X11, rfl, rfl, fun _ => rfl⟩
theorem fp_X11_159 : okP RX11 159 11 24 .int false := ⟨RX11, TX11, 38, tyX11, rfl, by decide, ly_X11, gt_in 852 (by decide +kernel) rfl, oc_X11, rfl, rfl, fun _ => rfl⟩
theorem fp_X11_16 : okP RX11 16 11 3 (.array .int) true := ⟨RX11, TX11, 38, tyX11, rfl, by decide, ly_X11, gt_in 831 (by decide +kernel) rfl, oc_X11, rfl, rfl, fun _ => rfl⟩
theorem fp_X11_181 : okP RX11 181 11 31 .int false := ⟨RX11, TX11, 38, tyX11, rfl, by decide, ly_X11, gt_in 859 (by decide +kernel) rfl, oc_X11, rfl, rfl, fun _ => rfl⟩
theorem fp_X11_19 : okP RX11 19 11 4 (.array .int) true := ⟨RX11, TX11, 38, tyX11, rfl, by decide, ly_X11, gt_in 832 (by decide +kernel) rfl, oc_X11, rfl, rfl, fun _ => rfl⟩
theorem fp_X11_191 : okP RX11 191 11 32 .int false := ⟨RX11, TX11, 38, tyX11, rfl, by decide, ly_X11, gt_in 860 (by decide +kernel) rfl, oc_X11, rfl, rfl, fun _ => rfl⟩
theorem fp_X11_22 : okP RX11 22 11 5 .int false := ⟨RX11, TX11, 38, tyX11, rfl, by decide, ly_X11, gt_in 833 (by decide +kernel) rfl, oc_X11, rfl, rfl, fun _ => rfl⟩
theorem fp_X11_26 : okP RX11 26 11 6 (.array .boolean) true := ⟨RX11, TX11, 38, tyX11, rfl, by decide, ly_X11, gt_in 834 (by decide +kernel) rfl, oc_X11, rfl, rfl, fun _ => rfl⟩
theorem fp_X11_30 : okP RX11 30 11 7 (.array .int) true := ⟨RX11, TX11, 38, tyX11, rfl, by decide, ly_X11, gt_in 835 (by decide +kernel) rfl, oc_X11, rfl, rfl, fun _ => rfl⟩
theorem fp_X11_33 : okP RX11 33 11 8 (.array .int) true := ⟨RX11, TX11, 38, tyX11, rfl, by decide, ly_X11, gt_in 836 (by decide +kernel) rfl, oc_X11, rfl, rfl, fun _ => rfl⟩
theorem fp_X11_36 : okP RX11 36 11 9 (.array .int) true := ⟨RX11, TX11, 38, tyX11, rfl, by decide, ly_X11, gt_in 837 (by decide +kernel) rfl, oc_X11, rfl, rfl, fun _ => rfl⟩
theorem fp_X11_39 : okP RX11 39 11 13 .int false := ⟨RX11, TX11, 38, tyX11, rfl, by decide, ly_X11, gt_in 841 (by decide +kernel) rfl, oc_X11, rfl, rfl, fun _ => rfl⟩
theorem fp_X11_42 : okP RX11 42 11 17 .int false := ⟨RX11, TX11, 38, tyX11, rfl, by decide, ly_X11, gt_in 845 (by decide +kernel) rfl, oc_X11, rfl, rfl, fun _ => rfl⟩
theorem fp_X11_45 : okP RX11 45 11 18 (.array .byte) true := ⟨RX11, TX11, 38, tyX11, rfl, by decide, ly_X11, gt_in 846 (by decide +kernel) rfl, oc_X11, rfl, rfl, fun _ => rfl⟩
theorem fp_X11_49 : okP RX11 49 11 19 (.array .byte) true := ⟨RX11, TX11, 38, tyX11, rfl, by decide, ly_X11, gt_in 847 (by decide +kernel) rfl, oc_X11, rfl, rfl, fun _ => rfl⟩
theorem fp_X11_52 : okP RX11 52 11 20 (.array .byte) true := ⟨RX11, TX11, 38, tyX11, rfl, by decide, ly_X11, gt_in 848 (by decide +kernel) rfl, oc_X11, rfl, rfl, fun _ => rfl⟩
theorem fp_X11_55 : okP RX11 55 11 21 (.array .byte) true := ⟨RX11, TX11, 38, tyX11, rfl, by decide, ly_X11, gt_in 849 (by decide +kernel) rfl, oc_X11, rfl, rfl, fun _ => rfl⟩
theorem fp_X11_58 : okP RX11 58 11 22 (.array .int) true := ⟨RX11, TX11, 38, tyX11, rfl, by decide, ly_X11, gt_in 850 (by decide +kernel) rfl, oc_X11, rfl, rfl, fun _ => rfl⟩
theorem fp_X11_61 : okP RX11 61 11 23 (.array .int) true := ⟨RX11, TX11, 38, tyX11, rfl, by decide, ly_X11, gt_in 851 (by decide +kernel) rfl, oc_X11, rfl, rfl, fun _ => rfl⟩
theorem fp_X11_64 : okP RX11 64 11 25 .int false := ⟨RX11, TX11, 38, tyX11, rfl, by decide, ly_X11, gt_in 853 (by decide +kernel) rfl, oc_X11, rfl, rfl, fun _ => rfl⟩
theorem fp_X11_67 : okP RX11 67 11 27 (.array .byte) true := ⟨RX11, TX11, 38, tyX11, rfl, by decide, ly_X11, gt_in 855 (by decide +kernel) rfl, oc_X11, rfl, rfl, fun _ => rfl⟩
theorem fp_X11_70 : okP RX11 70 11 28 (.array .byte) true := ⟨RX11, TX11, 38, tyX11, rfl, by decide, ly_X11, gt_in 856 (by decide +kernel) rfl, oc_X11, rfl, rfl, fun _ => rfl⟩
theorem fp_X11_73 : okP RX11 73 11 29 (.array .int) true := ⟨RX11, TX11, 38, tyX11, rfl, by decide, ly_X11, gt_in 857 (by decide +kernel) rfl, oc_X11, rfl, rfl, fun _ => rfl⟩
theorem fp_X11_76 : okP RX11 76 11 30 (.array .int) true := ⟨RX11, TX11, 38, tyX11, rfl, by decide, ly_X11, gt_in 858 (by decide +kernel) rfl, oc_X11, rfl, rfl, fun _ => rfl⟩
theorem fp_X11_79 : okP RX11 79 11 33 (.array .int) true := ⟨RX11, TX11, 38, tyX11, rfl, by decide, ly_X11, gt_in 861 (by decide +kernel) rfl, oc_X11, rfl, rfl, fun _ => rfl⟩
theorem fp_X11_82 : okP RX11 82 11 34 (.array .int) true := ⟨RX11, TX11, 38, tyX11, rfl, by decide, ly_X11, gt_in 862 (by decide +kernel) rfl, oc_X11, rfl, rfl, fun _ => rfl⟩
theorem fp_X11_85 : okP RX11 85 11 35 (.array .long) true := ⟨RX11, TX11, 38, tyX11, rfl, by decide, ly_X11, gt_in 863 (by decide +kernel) rfl, oc_X11, rfl, rfl, fun _ => rfl⟩
theorem fp_X11_89 : okP RX11 89 11 36 (.array .long) true := ⟨RX11, TX11, 38, tyX11, rfl, by decide, ly_X11, gt_in 864 (by decide +kernel) rfl, oc_X11, rfl, rfl, fun _ => rfl⟩
theorem fp_X11_9 : okP RX11 9 11 1 (.array .int) true := ⟨RX11, TX11, 38, tyX11, rfl, by decide, ly_X11, gt_in 829 (by decide +kernel) rfl, oc_X11, rfl, rfl, fun _ => rfl⟩
theorem fp_X11_92 : okP RX11 92 11 37 (.array .byte) true := ⟨RX11, TX11, 38, tyX11, rfl, by decide, ly_X11, gt_in 865 (by decide +kernel) rfl, oc_X11, rfl, rfl, fun _ => rfl⟩
theorem fp_X11_98 : okP RX11 98 11 0 .int false := ⟨RX11, TX11, 38, tyX11, rfl, by decide, ly_X11, gt_in 828 (by decide +kernel) rfl, oc_X11, rfl, rfl, fun _ => rfl⟩
theorem fl_X2_17 : okF RX2 17 2 4 := ⟨RX2, TX2, 7, rfl, by decide, ly_X2, gt_in 246 (by decide +kernel) rfl⟩
theorem fl_X2_20 : okF RX2 20 2 5 := ⟨RX2, TX2, 7, rfl, by decide, ly_X2, gt_in 247 (by decide +kernel) rfl⟩
theorem fl_X2_23 : okF RX2 23 2 0 := ⟨RX2, TX2, 7, rfl, by decide, ly_X2, gt_in 242 (by decide +kernel) rfl⟩
theorem fl_X2_27 : okF RX2 27 2 1 := ⟨RX2, TX2, 7, rfl, by decide, ly_X2, gt_in 243 (by decide +kernel) rfl⟩
theorem fl_X2_31 : okF RX2 31 2 2 := ⟨RX2, TX2, 7, rfl, by decide, ly_X2, gt_in 244 (by decide +kernel) rfl⟩
theorem fl_X2_35 : okF RX2 35 2 6 := ⟨RX2, TX2, 7, rfl, by decide, ly_X2, gt_in 248 (by decide +kernel) rfl⟩
theorem fl_X2_9 : okF RX2 9 2 3 := ⟨RX2, TX2, 7, rfl, by decide, ly_X2, gt_in 245 (by decide +kernel) rfl⟩
theorem ob_X2_3 : Cond.methodLink RX2 3 Lib.objectInit ∈ GT := gt_in 241 (by decide +kernel) rfl
theorem fp_X2_17 : okP RX2 17 2 4 (.array .int) true := ⟨RX2, TX2, 7, tyX2, rfl, by decide, ly_X2, gt_in 246 (by decide +kernel) rfl, oc_X2, rfl, rfl, fun _ => rfl⟩
theorem fp_X2_20 : okP RX2 20 2 5 (.array .int) true := ⟨RX2, TX2, 7, tyX2, rfl, by decide, ly_X2, gt_in 247 (by decide +kernel) rfl, oc_X2, rfl, rfl, fun _ => rfl⟩
theorem fp_X2_23 : okP RX2 23 2 0 (.object "SwitchDesk$Book") true := ⟨RX2, TX2, 7, tyX2, rfl, by decide, ly_X2, gt_in 242 (by decide +kernel) rfl, oc_X2, rfl, rfl, fun _ => rfl⟩
theorem fp_X2_27 : okP RX2 27 2 1 (.object "SwitchDesk$Tray") true := ⟨RX2, TX2, 7, tyX2, rfl, by decide, ly_X2, gt_in 243 (by decide +kernel) rfl, oc_X2, rfl, rfl, fun _ => rfl⟩
theorem fp_X2_31 : okP RX2 31 2 2 (.object "SwitchDesk$Sheet") true := ⟨RX2, TX2, 7, tyX2, rfl, by decide, ly_X2, gt_in 244 (by decide +kernel) rfl, oc_X2, rfl, rfl, fun _ => rfl⟩
theorem fp_X2_35 : okP RX2 35 2 6 .int false := ⟨RX2, TX2, 7, tyX2, rfl, by decide, ly_X2, gt_in 248 (by decide +kernel) rfl, oc_X2, rfl, rfl, fun _ => rfl⟩
theorem fp_X2_9 : okP RX2 9 2 3 (.array .int) true := ⟨RX2, TX2, 7, tyX2, rfl, by decide, ly_X2, gt_in 245 (by decide +kernel) rfl, oc_X2, rfl, rfl, fun _ => rfl⟩
theorem fl_X3_15 : okF RX3 15 3 1 := ⟨RX3, TX3, 10, rfl, by decide, ly_X3, gt_in 124 (by decide +kernel) rfl⟩
theorem fl_X3_23 : okF RX3 23 3 3 := ⟨RX3, TX3, 10, rfl, by decide, ly_X3, gt_in 126 (by decide +kernel) rfl⟩
theorem fl_X3_33 : okF RX3 33 3 4 := ⟨RX3, TX3, 10, rfl, by decide, ly_X3, gt_in 127 (by decide +kernel) rfl⟩
theorem fl_X3_36 : okF RX3 36 3 5 := ⟨RX3, TX3, 10, rfl, by decide, ly_X3, gt_in 128 (by decide +kernel) rfl⟩
theorem fl_X3_39 : okF RX3 39 3 2 := ⟨RX3, TX3, 10, rfl, by decide, ly_X3, gt_in 125 (by decide +kernel) rfl⟩
theorem fl_X3_42 : okF RX3 42 3 6 := ⟨RX3, TX3, 10, rfl, by decide, ly_X3, gt_in 129 (by decide +kernel) rfl⟩
theorem fl_X3_45 : okF RX3 45 3 7 := ⟨RX3, TX3, 10, rfl, by decide, ly_X3, gt_in 130 (by decide +kernel) rfl⟩
theorem fl_X3_70 : okF RX3 70 3 8 := ⟨RX3, TX3, 10, rfl, by decide, ly_X3, gt_in 131 (by decide +kernel) rfl⟩
theorem fl_X3_73 : okF RX3 73 3 9 := ⟨RX3, TX3, 10, rfl, by decide, ly_X3, gt_in 132 (by decide +kernel) rfl⟩
theorem fl_X3_9 : okF RX3 9 3 0 := ⟨RX3, TX3, 10, rfl, by decide, ly_X3, gt_in 123 (by decide +kernel) rfl⟩
theorem ob_X3_3 : Cond.methodLink RX3 3 Lib.objectInit ∈ GT := gt_in 114 (by decide +kernel) rfl
theorem fp_X3_15 : okP RX3 15 3 1 (.object "SwitchDesk$Numbers") true := ⟨RX3, TX3, 10, tyX3, rfl, by decide, ly_X3, gt_in 124 (by decide +kernel) rfl, oc_X3, rfl, rfl, fun _ => rfl⟩
theorem fp_X3_23 : okP RX3 23 3 3 .int false := ⟨RX3, TX3, 10, tyX3, rfl, by decide, ly_X3, gt_in 126 (by decide +kernel) rfl, oc_X3, rfl, rfl, fun _ => rfl⟩
theorem fp_X3_33 : okP RX3 33 3 4 .int false := ⟨RX3, TX3, 10, tyX3, rfl, by decide, ly_X3, gt_in 127 (by decide +kernel) rfl, oc_X3, rfl, rfl, fun _ => rfl⟩
theorem fp_X3_36 : okP RX3 36 3 5 .int false := ⟨RX3, TX3, 10, tyX3, rfl, by decide, ly_X3, gt_in 128 (by decide +kernel) rfl, oc_X3, rfl, rfl, fun _ => rfl⟩
theorem fp_X3_39 : okP RX3 39 3 2 .int false := ⟨RX3, TX3, 10, tyX3, rfl, by decide, ly_X3, gt_in 125 (by decide +kernel) rfl, oc_X3, rfl, rfl, fun _ => rfl⟩
theorem fp_X3_42 : okP RX3 42 3 6 .int false := ⟨RX3, TX3, 10, tyX3, rfl, by decide, ly_X3, gt_in 129 (by decide +kernel) rfl, oc_X3, rfl, rfl, fun _ => rfl⟩
theorem fp_X3_45 : okP RX3 45 3 7 .int false := ⟨RX3, TX3, 10, tyX3, rfl, by decide, ly_X3, gt_in 130 (by decide +kernel) rfl, oc_X3, rfl, rfl, fun _ => rfl⟩
theorem fp_X3_70 : okP RX3 70 3 8 .int false := ⟨RX3, TX3, 10, tyX3, rfl, by decide, ly_X3, gt_in 131 (by decide +kernel) rfl, oc_X3, rfl, rfl, fun _ => rfl⟩
theorem fp_X3_73 : okP RX3 73 3 9 .int false := ⟨RX3, TX3, 10, tyX3, rfl, by decide, ly_X3, gt_in 132 (by decide +kernel) rfl, oc_X3, rfl, rfl, fun _ => rfl⟩
theorem fp_X3_9 : okP RX3 9 3 0 (.object "SwitchDesk$Tray") true := ⟨RX3, TX3, 10, tyX3, rfl, by decide, ly_X3, gt_in 123 (by decide +kernel) rfl, oc_X3, rfl, rfl, fun _ => rfl⟩
theorem fl_X4_9 : okF RX4 9 4 0 := ⟨RX4, TX4, 1, rfl, by decide, ly_X4, gt_in 33 (by decide +kernel) rfl⟩
theorem ob_X4_3 : Cond.methodLink RX4 3 Lib.objectInit ∈ GT := gt_in 32 (by decide +kernel) rfl
theorem fp_X4_9 : okP RX4 9 4 0 (.array .int) true := ⟨RX4, TX4, 1, tyX4, rfl, by decide, ly_X4, gt_in 33 (by decide +kernel) rfl, oc_X4, rfl, rfl, fun _ => rfl⟩
theorem fl_X5_13 : okF RX5 13 5 2 := ⟨RX5, TX5, 5, rfl, by decide, ly_X5, gt_in 291 (by decide +kernel) rfl⟩
theorem fl_X5_17 : okF RX5 17 5 3 := ⟨RX5, TX5, 5, rfl, by decide, ly_X5, gt_in 292 (by decide +kernel) rfl⟩
theorem fl_X5_22 : okF RX5 22 5 4 := ⟨RX5, TX5, 5, rfl, by decide, ly_X5, gt_in 293 (by decide +kernel) rfl⟩
theorem fl_X5_25 : okF RX5 25 5 0 := ⟨RX5, TX5, 5, rfl, by decide, ly_X5, gt_in 289 (by decide +kernel) rfl⟩
theorem fl_X5_29 : okF RX5 29 5 1 := ⟨RX5, TX5, 5, rfl, by decide, ly_X5, gt_in 290 (by decide +kernel) rfl⟩
theorem ob_X5_5 : Cond.methodLink RX5 5 Lib.objectInit ∈ GT := gt_in 288 (by decide +kernel) rfl
theorem fp_X5_13 : okP RX5 13 5 2 (.array .int) true := ⟨RX5, TX5, 5, tyX5, rfl, by decide, ly_X5, gt_in 291 (by decide +kernel) rfl, oc_X5, rfl, rfl, fun _ => rfl⟩
theorem fp_X5_17 : okP RX5 17 5 3 (.array .int) true := ⟨RX5, TX5, 5, tyX5, rfl, by decide, ly_X5, gt_in 292 (by decide +kernel) rfl, oc_X5, rfl, rfl, fun _ => rfl⟩
theorem fp_X5_22 : okP RX5 22 5 4 (.array .int) true := ⟨RX5, TX5, 5, tyX5, rfl, by decide, ly_X5, gt_in 293 (by decide +kernel) rfl, oc_X5, rfl, rfl, fun _ => rfl⟩
theorem fp_X5_25 : okP RX5 25 5 0 (.object "SwitchDesk$Tape") true := ⟨RX5, TX5, 5, tyX5, rfl, by decide, ly_X5, gt_in 289 (by decide +kernel) rfl, oc_X5, rfl, rfl, fun _ => rfl⟩
theorem fp_X5_29 : okP RX5 29 5 1 (.object "SwitchDesk$Numbers") true := ⟨RX5, TX5, 5, tyX5, rfl, by decide, ly_X5, gt_in 290 (by decide +kernel) rfl, oc_X5, rfl, rfl, fun _ => rfl⟩
theorem fl_X6_15 : okF RX6 15 6 3 := ⟨RX6, TX6, 4, rfl, by decide, ly_X6, gt_in 273 (by decide +kernel) rfl⟩
theorem fl_X6_18 : okF RX6 18 6 0 := ⟨RX6, TX6, 4, rfl, by decide, ly_X6, gt_in 270 (by decide +kernel) rfl⟩
theorem fl_X6_22 : okF RX6 22 6 1 := ⟨RX6, TX6, 4, rfl, by decide, ly_X6, gt_in 271 (by decide +kernel) rfl⟩
theorem fl_X6_9 : okF RX6 9 6 2 := ⟨RX6, TX6, 4, rfl, by decide, ly_X6, gt_in 272 (by decide +kernel) rfl⟩
theorem ob_X6_3 : Cond.methodLink RX6 3 Lib.objectInit ∈ GT := gt_in 269 (by decide +kernel) rfl
theorem fp_X6_15 : okP RX6 15 6 3 (.array .int) true := ⟨RX6, TX6, 4, tyX6, rfl, by decide, ly_X6, gt_in 273 (by decide +kernel) rfl, oc_X6, rfl, rfl, fun _ => rfl⟩
theorem fp_X6_18 : okP RX6 18 6 0 (.object "SwitchDesk$Tray") true := ⟨RX6, TX6, 4, tyX6, rfl, by decide, ly_X6, gt_in 270 (by decide +kernel) rfl, oc_X6, rfl, rfl, fun _ => rfl⟩
theorem fp_X6_22 : okP RX6 22 6 1 (.object "SwitchDesk$Numbers") true := ⟨RX6, TX6, 4, tyX6, rfl, by decide, ly_X6, gt_in 271 (by decide +kernel) rfl, oc_X6, rfl, rfl, fun _ => rfl⟩
theorem fp_X6_9 : okP RX6 9 6 2 (.array .int) true := ⟨RX6, TX6, 4, tyX6, rfl, by decide, ly_X6, gt_in 272 (by decide +kernel) rfl, oc_X6, rfl, rfl, fun _ => rfl⟩
theorem fl_X7_14 : okF RX7 14 7 0 := ⟨RX7, TX7, 7, rfl, by decide, ly_X7, gt_in 181 (by decide +kernel) rfl⟩
theorem fl_X7_20 : okF RX7 20 7 1 := ⟨RX7, TX7, 7, rfl, by decide, ly_X7, gt_in 182 (by decide +kernel) rfl⟩
theorem fl_X7_24 : okF RX7 24 7 2 := ⟨RX7, TX7, 7, rfl, by decide, ly_X7, gt_in 183 (by decide +kernel) rfl⟩
theorem fl_X7_27 : okF RX7 27 7 5 := ⟨RX7, TX7, 7, rfl, by decide, ly_X7, gt_in 186 (by decide +kernel) rfl⟩
theorem fl_X7_30 : okF RX7 30 7 6 := ⟨RX7, TX7, 7, rfl, by decide, ly_X7, gt_in 187 (by decide +kernel) rfl⟩
theorem fl_X7_33 : okF RX7 33 7 4 := ⟨RX7, TX7, 7, rfl, by decide, ly_X7, gt_in 185 (by decide +kernel) rfl⟩
theorem fl_X7_37 : okF RX7 37 1 0 := ⟨RX1, TX1, 3, rfl, by decide, ly_X1, gt_in 167 (by decide +kernel) rfl⟩
theorem fl_X7_40 : okF RX7 40 1 1 := ⟨RX1, TX1, 3, rfl, by decide, ly_X1, gt_in 169 (by decide +kernel) rfl⟩
theorem fl_X7_47 : okF RX7 47 1 2 := ⟨RX1, TX1, 3, rfl, by decide, ly_X1, gt_in 171 (by decide +kernel) rfl⟩
theorem fl_X7_71 : okF RX7 71 7 3 := ⟨RX7, TX7, 7, rfl, by decide, ly_X7, gt_in 184 (by decide +kernel) rfl⟩
theorem ob_X7_3 : Cond.methodLink RX7 3 Lib.objectInit ∈ GT := gt_in 159 (by decide +kernel) rfl
theorem nw_X7_9 : okW RX7 9 1 3 tyX1 := ⟨RX1, TX1, rfl, ly_X1, oc_X1, gt_in 160 (by decide +kernel) rfl, gt_in 161 (by decide +kernel) rfl, gt_in 7 (by decide +kernel) rfl⟩
theorem fp_X7_14 : okP RX7 14 7 0 (.object "SwitchDesk$Chain") true := ⟨RX7, TX7, 7, tyX7, rfl, by decide, ly_X7, gt_in 181 (by decide +kernel) rfl, oc_X7, rfl, rfl, fun _ => rfl⟩
theorem fp_X7_20 : okP RX7 20 7 1 (.array (.object "SwitchDesk$Chain")) true := ⟨RX7, TX7, 7, tyX7, rfl, by decide, ly_X7, gt_in 182 (by decide +kernel) rfl, oc_X7, rfl, rfl, fun _ => rfl⟩
theorem fp_X7_24 : okP RX7 24 7 2 (.array (.object "SwitchDesk$Chain")) true := ⟨RX7, TX7, 7, tyX7, rfl, by decide, ly_X7, gt_in 183 (by decide +kernel) rfl, oc_X7, rfl, rfl, fun _ => rfl⟩
theorem fp_X7_27 : okP RX7 27 7 5 (.object "SwitchDesk$Chain") false := ⟨RX7, TX7, 7, tyX7, rfl, by decide, ly_X7, gt_in 186 (by decide +kernel) rfl, oc_X7, rfl, rfl, fun _ => rfl⟩
theorem fp_X7_30 : okP RX7 30 7 6 (.object "SwitchDesk$Chain") false := ⟨RX7, TX7, 7, tyX7, rfl, by decide, ly_X7, gt_in 187 (by decide +kernel) rfl, oc_X7, rfl, rfl, fun _ => rfl⟩
theorem fp_X7_33 : okP RX7 33 7 4 .int false := ⟨RX7, TX7, 7, tyX7, rfl, by decide, ly_X7, gt_in 185 (by decide +kernel) rfl, oc_X7, rfl, rfl, fun _ => rfl⟩
theorem fp_X7_71 : okP RX7 71 7 3 .int false := ⟨RX7, TX7, 7, tyX7, rfl, by decide, ly_X7, gt_in 184 (by decide +kernel) rfl, oc_X7, rfl, rfl, fun _ => rfl⟩
theorem fl_X8_11 : okF RX8 11 8 0 := ⟨RX8, TX8, 2, rfl, by decide, ly_X8, gt_in 209 (by decide +kernel) rfl⟩
theorem fl_X8_19 : okF RX8 19 8 1 := ⟨RX8, TX8, 2, rfl, by decide, ly_X8, gt_in 211 (by decide +kernel) rfl⟩
theorem ob_X8_3 : Cond.methodLink RX8 3 Lib.objectInit ∈ GT := gt_in 208 (by decide +kernel) rfl
theorem fp_X8_11 : okP RX8 11 8 0 (.array .int) true := ⟨RX8, TX8, 2, tyX8, rfl, by decide, ly_X8, gt_in 209 (by decide +kernel) rfl, oc_X8, rfl, rfl, fun _ => rfl⟩
theorem fp_X8_19 : okP RX8 19 8 1 .int false := ⟨RX8, TX8, 2, tyX8, rfl, by decide, ly_X8, gt_in 211 (by decide +kernel) rfl, oc_X8, rfl, rfl, fun _ => rfl⟩
theorem fl_X9_11 : okF RX9 11 9 0 := ⟨RX9, TX9, 11, rfl, by decide, ly_X9, gt_in 74 (by decide +kernel) rfl⟩
theorem fl_X9_15 : okF RX9 15 9 1 := ⟨RX9, TX9, 11, rfl, by decide, ly_X9, gt_in 75 (by decide +kernel) rfl⟩
theorem fl_X9_18 : okF RX9 18 9 2 := ⟨RX9, TX9, 11, rfl, by decide, ly_X9, gt_in 76 (by decide +kernel) rfl⟩
theorem fl_X9_21 : okF RX9 21 9 3 := ⟨RX9, TX9, 11, rfl, by decide, ly_X9, gt_in 77 (by decide +kernel) rfl⟩
theorem fl_X9_24 : okF RX9 24 9 4 := ⟨RX9, TX9, 11, rfl, by decide, ly_X9, gt_in 78 (by decide +kernel) rfl⟩
theorem fl_X9_27 : okF RX9 27 9 5 := ⟨RX9, TX9, 11, rfl, by decide, ly_X9, gt_in 79 (by decide +kernel) rfl⟩
theorem fl_X9_30 : okF RX9 30 9 6 := ⟨RX9, TX9, 11, rfl, by decide, ly_X9, gt_in 80 (by decide +kernel) rfl⟩
theorem fl_X9_33 : okF RX9 33 9 7 := ⟨RX9, TX9, 11, rfl, by decide, ly_X9, gt_in 81 (by decide +kernel) rfl⟩
theorem fl_X9_36 : okF RX9 36 9 8 := ⟨RX9, TX9, 11, rfl, by decide, ly_X9, gt_in 82 (by decide +kernel) rfl⟩
theorem fl_X9_40 : okF RX9 40 9 9 := ⟨RX9, TX9, 11, rfl, by decide, ly_X9, gt_in 83 (by decide +kernel) rfl⟩
theorem fl_X9_49 : okF RX9 49 9 10 := ⟨RX9, TX9, 11, rfl, by decide, ly_X9, gt_in 84 (by decide +kernel) rfl⟩
theorem ob_X9_3 : Cond.methodLink RX9 3 Lib.objectInit ∈ GT := gt_in 43 (by decide +kernel) rfl
theorem fp_X9_11 : okP RX9 11 9 0 (.array .int) true := ⟨RX9, TX9, 11, tyX9, rfl, by decide, ly_X9, gt_in 74 (by decide +kernel) rfl, oc_X9, rfl, rfl, fun _ => rfl⟩
theorem fp_X9_15 : okP RX9 15 9 1 (.array .int) true := ⟨RX9, TX9, 11, tyX9, rfl, by decide, ly_X9, gt_in 75 (by decide +kernel) rfl, oc_X9, rfl, rfl, fun _ => rfl⟩
theorem fp_X9_18 : okP RX9 18 9 2 (.array .int) true := ⟨RX9, TX9, 11, tyX9, rfl, by decide, ly_X9, gt_in 76 (by decide +kernel) rfl, oc_X9, rfl, rfl, fun _ => rfl⟩
theorem fp_X9_21 : okP RX9 21 9 3 (.array .int) true := ⟨RX9, TX9, 11, tyX9, rfl, by decide, ly_X9, gt_in 77 (by decide +kernel) rfl, oc_X9, rfl, rfl, fun _ => rfl⟩
theorem fp_X9_24 : okP RX9 24 9 4 (.array .int) true := ⟨RX9, TX9, 11, tyX9, rfl, by decide, ly_X9, gt_in 78 (by decide +kernel) rfl, oc_X9, rfl, rfl, fun _ => rfl⟩
theorem fp_X9_27 : okP RX9 27 9 5 (.array .int) true := ⟨RX9, TX9, 11, tyX9, rfl, by decide, ly_X9, gt_in 79 (by decide +kernel) rfl, oc_X9, rfl, rfl, fun _ => rfl⟩
theorem fp_X9_30 : okP RX9 30 9 6 (.array .int) true := ⟨RX9, TX9, 11, tyX9, rfl, by decide, ly_X9, gt_in 80 (by decide +kernel) rfl, oc_X9, rfl, rfl, fun _ => rfl⟩
theorem fp_X9_33 : okP RX9 33 9 7 (.array .int) true := ⟨RX9, TX9, 11, tyX9, rfl, by decide, ly_X9, gt_in 81 (by decide +kernel) rfl, oc_X9, rfl, rfl, fun _ => rfl⟩
theorem fp_X9_36 : okP RX9 36 9 8 (.array .boolean) true := ⟨RX9, TX9, 11, tyX9, rfl, by decide, ly_X9, gt_in 82 (by decide +kernel) rfl, oc_X9, rfl, rfl, fun _ => rfl⟩
theorem fp_X9_40 : okP RX9 40 9 9 (.array .int) true := ⟨RX9, TX9, 11, tyX9, rfl, by decide, ly_X9, gt_in 83 (by decide +kernel) rfl, oc_X9, rfl, rfl, fun _ => rfl⟩
theorem fp_X9_49 : okP RX9 49 9 10 .int false := ⟨RX9, TX9, 11, tyX9, rfl, by decide, ly_X9, gt_in 84 (by decide +kernel) rfl, oc_X9, rfl, rfl, fun _ => rfl⟩
theorem oy_J7_fill_53178 : okY mArrays_fill 2 := ⟨gt_in 62 (by decide +kernel) rfl, gt_in 4 (by decide +kernel) rfl, by decide +kernel, ⟨by decide +kernel, by decide +kernel, by decide +kernel⟩, by decide⟩
theorem oy_X0_add : okY mBook_add 1 := ⟨gt_in 606 (by decide +kernel) rfl, gt_in 9 (by decide +kernel) rfl, by decide +kernel, ⟨by decide +kernel, by decide +kernel, by decide +kernel⟩, by decide⟩
theorem oy_X0_beginsWith : okY mBook_beginsWith 3 := ⟨gt_in 493 (by decide +kernel) rfl, gt_in 9 (by decide +kernel) rfl, by decide +kernel, ⟨by decide +kernel, by decide +kernel, by decide +kernel⟩, by decide⟩
theorem oy_X0_find : okY mBook_find 2 := ⟨gt_in 529 (by decide +kernel) rfl, gt_in 9 (by decide +kernel) rfl, by decide +kernel, ⟨by decide +kernel, by decide +kernel, by decide +kernel⟩, by decide⟩
theorem oy_X0_has : okY mBook_has 1 := ⟨gt_in 489 (by decide +kernel) rfl, gt_in 9 (by decide +kernel) rfl, by decide +kernel, ⟨by decide +kernel, by decide +kernel, by decide +kernel⟩, by decide⟩
theorem oy_X0_init : okY mBook_init 0 := ⟨gt_in 221 (by decide +kernel) rfl, gt_in 9 (by decide +kernel) rfl, by decide +kernel, ⟨by decide +kernel, by decide +kernel, by decide +kernel⟩, by decide⟩
theorem oy_X0_signOf : okY mBook_signOf 2 := ⟨gt_in 498 (by decide +kernel) rfl, gt_in 9 (by decide +kernel) rfl, by decide +kernel, ⟨by decide +kernel, by decide +kernel, by decide +kernel⟩, by decide⟩
theorem oy_X0_size : okY mBook_size 0 := ⟨gt_in 481 (by decide +kernel) rfl, gt_in 9 (by decide +kernel) rfl, by decide +kernel, ⟨by decide +kernel, by decide +kernel, by decide +kernel⟩, by decide⟩
theorem oy_X0_sizeOf : okY mBook_sizeOf 1 := ⟨gt_in 485 (by decide +kernel) rfl, gt_in 9 (by decide +kernel) rfl, by decide +kernel, ⟨by decide +kernel, by decide +kernel, by decide +kernel⟩, by decide⟩
theorem oy_X0_take : okY mBook_take 2 := ⟨gt_in 587 (by decide +kernel) rfl, gt_in 9 (by decide +kernel) rfl, by decide +kernel, ⟨by decide +kernel, by decide +kernel, by decide +kernel⟩, by decide⟩
theorem oy_X0_timesOf : okY mBook_timesOf 1 := ⟨gt_in 510 (by decide +kernel) rfl, gt_in 9 (by decide +kernel) rfl, by decide +kernel, ⟨by decide +kernel, by decide +kernel, by decide +kernel⟩, by decide⟩
theorem oy_X10_act : okY mDesk_act 1 := ⟨gt_in 436 (by decide +kernel) rfl, gt_in 1 (by decide +kernel) rfl, by decide +kernel, ⟨by decide +kernel, by decide +kernel, by decide +kernel⟩, by decide⟩
theorem oy_X10_at : okY mDesk_at 2 := ⟨gt_in 742 (by decide +kernel) rfl, gt_in 1 (by decide +kernel) rfl, by decide +kernel, ⟨by decide +kernel, by decide +kernel, by decide +kernel⟩, by decide⟩
theorem oy_X10_clear : okY mDesk_clear 0 := ⟨gt_in 363 (by decide +kernel) rfl, gt_in 1 (by decide +kernel) rfl, by decide +kernel, ⟨by decide +kernel, by decide +kernel, by decide +kernel⟩, by decide⟩
theorem oy_X10_cost : okY mDesk_cost 1 := ⟨gt_in 641 (by decide +kernel) rfl, gt_in 1 (by decide +kernel) rfl, by decide +kernel, ⟨by decide +kernel, by decide +kernel, by decide +kernel⟩, by decide⟩
theorem oy_X10_count : okY mDesk_count 1 := ⟨gt_in 726 (by decide +kernel) rfl, gt_in 1 (by decide +kernel) rfl, by decide +kernel, ⟨by decide +kernel, by decide +kernel, by decide +kernel⟩, by decide⟩
theorem oy_X10_end : okY mDesk_end 1 := ⟨gt_in 574 (by decide +kernel) rfl, gt_in 1 (by decide +kernel) rfl, by decide +kernel, ⟨by decide +kernel, by decide +kernel, by decide +kernel⟩, by decide⟩
theorem oy_X10_feed : okY mDesk_feed 2 := ⟨gt_in 563 (by decide +kernel) rfl, gt_in 1 (by decide +kernel) rfl, by decide +kernel, ⟨by decide +kernel, by decide +kernel, by decide +kernel⟩, by decide⟩
theorem oy_X10_foreseen : okY mDesk_foreseen 1 := ⟨gt_in 617 (by decide +kernel) rfl, gt_in 1 (by decide +kernel) rfl, by decide +kernel, ⟨by decide +kernel, by decide +kernel, by decide +kernel⟩, by decide⟩
theorem oy_X10_init : okY mDesk_init 0 := ⟨gt_in 23 (by decide +kernel) rfl, gt_in 1 (by decide +kernel) rfl, by decide +kernel, ⟨by decide +kernel, by decide +kernel, by decide +kernel⟩, by decide⟩
theorem oy_X10_isLetter : okY mDesk_isLetter 1 := ⟨gt_in 73 (by decide +kernel) rfl, gt_in 1 (by decide +kernel) rfl, by decide +kernel, ⟨by decide +kernel, by decide +kernel, by decide +kernel⟩, by decide⟩
theorem oy_X10_lay : okY mDesk_lay 0 := ⟨gt_in 677 (by decide +kernel) rfl, gt_in 1 (by decide +kernel) rfl, by decide +kernel, ⟨by decide +kernel, by decide +kernel, by decide +kernel⟩, by decide⟩
theorem oy_X10_length : okY mDesk_length 1 := ⟨gt_in 555 (by decide +kernel) rfl, gt_in 1 (by decide +kernel) rfl, by decide +kernel, ⟨by decide +kernel, by decide +kernel, by decide +kernel⟩, by decide⟩
theorem oy_X10_letter : okY mDesk_letter 2 := ⟨gt_in 815 (by decide +kernel) rfl, gt_in 1 (by decide +kernel) rfl, by decide +kernel, ⟨by decide +kernel, by decide +kernel, by decide +kernel⟩, by decide⟩
theorem oy_X10_mean : okY mDesk_mean 1 := ⟨gt_in 652 (by decide +kernel) rfl, gt_in 1 (by decide +kernel) rfl, by decide +kernel, ⟨by decide +kernel, by decide +kernel, by decide +kernel⟩, by decide⟩
theorem oy_X10_near : okY mDesk_near 2 := ⟨gt_in 625 (by decide +kernel) rfl, gt_in 1 (by decide +kernel) rfl, by decide +kernel, ⟨by decide +kernel, by decide +kernel, by decide +kernel⟩, by decide⟩
theorem oy_X10_node : okY mDesk_node 3 := ⟨gt_in 336 (by decide +kernel) rfl, gt_in 1 (by decide +kernel) rfl, by decide +kernel, ⟨by decide +kernel, by decide +kernel, by decide +kernel⟩, by decide⟩
theorem oy_X10_offered : okY mDesk_offered 1 := ⟨gt_in 621 (by decide +kernel) rfl, gt_in 1 (by decide +kernel) rfl, by decide +kernel, ⟨by decide +kernel, by decide +kernel, by decide +kernel⟩, by decide⟩
theorem oy_X10_press : okY mDesk_press 0 := ⟨gt_in 428 (by decide +kernel) rfl, gt_in 1 (by decide +kernel) rfl, by decide +kernel, ⟨by decide +kernel, by decide +kernel, by decide +kernel⟩, by decide⟩
theorem oy_X10_set : okY mDesk_set 2 := ⟨gt_in 390 (by decide +kernel) rfl, gt_in 1 (by decide +kernel) rfl, by decide +kernel, ⟨by decide +kernel, by decide +kernel, by decide +kernel⟩, by decide⟩
theorem oy_X10_share : okY mDesk_share 2 := ⟨gt_in 631 (by decide +kernel) rfl, gt_in 1 (by decide +kernel) rfl, by decide +kernel, ⟨by decide +kernel, by decide +kernel, by decide +kernel⟩, by decide⟩
theorem oy_X10_showTrayAnew : okY mDesk_showTrayAnew 0 := ⟨gt_in 357 (by decide +kernel) rfl, gt_in 1 (by decide +kernel) rfl, by decide +kernel, ⟨by decide +kernel, by decide +kernel, by decide +kernel⟩, by decide⟩
theorem oy_X10_state : okY mDesk_state 1 := ⟨gt_in 543 (by decide +kernel) rfl, gt_in 1 (by decide +kernel) rfl, by decide +kernel, ⟨by decide +kernel, by decide +kernel, by decide +kernel⟩, by decide⟩
theorem oy_X10_tick : okY mDesk_tick 1 := ⟨gt_in 403 (by decide +kernel) rfl, gt_in 1 (by decide +kernel) rfl, by decide +kernel, ⟨by decide +kernel, by decide +kernel, by decide +kernel⟩, by decide⟩
theorem oy_X10_told : okY mDesk_told 2 := ⟨gt_in 368 (by decide +kernel) rfl, gt_in 1 (by decide +kernel) rfl, by decide +kernel, ⟨by decide +kernel, by decide +kernel, by decide +kernel⟩, by decide⟩
theorem oy_X10_within : okY mDesk_within 3 := ⟨gt_in 350 (by decide +kernel) rfl, gt_in 1 (by decide +kernel) rfl, by decide +kernel, ⟨by decide +kernel, by decide +kernel, by decide +kernel⟩, by decide⟩
theorem oy_X10_word : okY mDesk_word 1 := ⟨gt_in 583 (by decide +kernel) rfl, gt_in 1 (by decide +kernel) rfl, by decide +kernel, ⟨by decide +kernel, by decide +kernel, by decide +kernel⟩, by decide⟩
theorem oy_X11_acts : okY mMod_acts 1 := ⟨gt_in 1011 (by decide +kernel) rfl, gt_in 13 (by decide +kernel) rfl, by decide +kernel, ⟨by decide +kernel, by decide +kernel, by decide +kernel⟩, by decide⟩
theorem oy_X11_adds : okY mMod_adds 3 := ⟨gt_in 966 (by decide +kernel) rfl, gt_in 13 (by decide +kernel) rfl, by decide +kernel, ⟨by decide +kernel, by decide +kernel, by decide +kernel⟩, by decide⟩
theorem oy_X11_areNear : okY mMod_areNear 2 := ⟨gt_in 1043 (by decide +kernel) rfl, gt_in 13 (by decide +kernel) rfl, by decide +kernel, ⟨by decide +kernel, by decide +kernel, by decide +kernel⟩, by decide⟩
theorem oy_X11_at : okY mMod_at 2 := ⟨gt_in 1055 (by decide +kernel) rfl, gt_in 13 (by decide +kernel) rfl, by decide +kernel, ⟨by decide +kernel, by decide +kernel, by decide +kernel⟩, by decide⟩
theorem oy_X11_bytesIn : okY mMod_bytesIn 1 := ⟨gt_in 1062 (by decide +kernel) rfl, gt_in 13 (by decide +kernel) rfl, by decide +kernel, ⟨by decide +kernel, by decide +kernel, by decide +kernel⟩, by decide⟩
theorem oy_X11_clear : okY mMod_clear 0 := ⟨gt_in 974 (by decide +kernel) rfl, gt_in 13 (by decide +kernel) rfl, by decide +kernel, ⟨by decide +kernel, by decide +kernel, by decide +kernel⟩, by decide⟩
theorem oy_X11_comes : okY mMod_comes 1 := ⟨gt_in 970 (by decide +kernel) rfl, gt_in 13 (by decide +kernel) rfl, by decide +kernel, ⟨by decide +kernel, by decide +kernel, by decide +kernel⟩, by decide⟩
theorem oy_X11_cost : okY mMod_cost 1 := ⟨gt_in 1102 (by decide +kernel) rfl, gt_in 13 (by decide +kernel) rfl, by decide +kernel, ⟨by decide +kernel, by decide +kernel, by decide +kernel⟩, by decide⟩
theorem oy_X11_costOf : okY mMod_costOf 1 := ⟨gt_in 1110 (by decide +kernel) rfl, gt_in 13 (by decide +kernel) rfl, by decide +kernel, ⟨by decide +kernel, by decide +kernel, by decide +kernel⟩, by decide⟩
theorem oy_X11_count : okY mMod_count 1 := ⟨gt_in 1147 (by decide +kernel) rfl, gt_in 13 (by decide +kernel) rfl, by decide +kernel, ⟨by decide +kernel, by decide +kernel, by decide +kernel⟩, by decide⟩
theorem oy_X11_end : okY mMod_end 1 := ⟨gt_in 1066 (by decide +kernel) rfl, gt_in 13 (by decide +kernel) rfl, by decide +kernel, ⟨by decide +kernel, by decide +kernel, by decide +kernel⟩, by decide⟩
theorem oy_X11_feed : okY mMod_feed 2 := ⟨gt_in 1059 (by decide +kernel) rfl, gt_in 13 (by decide +kernel) rfl, by decide +kernel, ⟨by decide +kernel, by decide +kernel, by decide +kernel⟩, by decide⟩
theorem oy_X11_foreseen : okY mMod_foreseen 1 := ⟨gt_in 1090 (by decide +kernel) rfl, gt_in 13 (by decide +kernel) rfl, by decide +kernel, ⟨by decide +kernel, by decide +kernel, by decide +kernel⟩, by decide⟩
theorem oy_X11_foreseenAt : okY mMod_foreseenAt 1 := ⟨gt_in 1027 (by decide +kernel) rfl, gt_in 13 (by decide +kernel) rfl, by decide +kernel, ⟨by decide +kernel, by decide +kernel, by decide +kernel⟩, by decide⟩
theorem oy_X11_hasKey : okY mMod_hasKey 1 := ⟨gt_in 1106 (by decide +kernel) rfl, gt_in 13 (by decide +kernel) rfl, by decide +kernel, ⟨by decide +kernel, by decide +kernel, by decide +kernel⟩, by decide⟩
theorem oy_X11_index : okY mMod_index 3 := ⟨gt_in 1135 (by decide +kernel) rfl, gt_in 13 (by decide +kernel) rfl, by decide +kernel, ⟨by decide +kernel, by decide +kernel, by decide +kernel⟩, by decide⟩
theorem oy_X11_init : okY mMod_init 0 := ⟨gt_in 822 (by decide +kernel) rfl, gt_in 13 (by decide +kernel) rfl, by decide +kernel, ⟨by decide +kernel, by decide +kernel, by decide +kernel⟩, by decide⟩
theorem oy_X11_isIn : okY mMod_isIn 3 := ⟨gt_in 959 (by decide +kernel) rfl, gt_in 13 (by decide +kernel) rfl, by decide +kernel, ⟨by decide +kernel, by decide +kernel, by decide +kernel⟩, by decide⟩
theorem oy_X11_isNode : okY mMod_isNode 1 := ⟨gt_in 956 (by decide +kernel) rfl, gt_in 13 (by decide +kernel) rfl, by decide +kernel, ⟨by decide +kernel, by decide +kernel, by decide +kernel⟩, by decide⟩
theorem oy_X11_isRow : okY mMod_isRow 0 := ⟨gt_in 1074 (by decide +kernel) rfl, gt_in 13 (by decide +kernel) rfl, by decide +kernel, ⟨by decide +kernel, by decide +kernel, by decide +kernel⟩, by decide⟩
theorem oy_X11_isSmall : okY mMod_isSmall 1 := ⟨gt_in 962 (by decide +kernel) rfl, gt_in 13 (by decide +kernel) rfl, by decide +kernel, ⟨by decide +kernel, by decide +kernel, by decide +kernel⟩, by decide⟩
theorem oy_X11_isWord : okY mMod_isWord 1 := ⟨gt_in 1078 (by decide +kernel) rfl, gt_in 13 (by decide +kernel) rfl, by decide +kernel, ⟨by decide +kernel, by decide +kernel, by decide +kernel⟩, by decide⟩
theorem oy_X11_item : okY mMod_item 3 := ⟨gt_in 1128 (by decide +kernel) rfl, gt_in 13 (by decide +kernel) rfl, by decide +kernel, ⟨by decide +kernel, by decide +kernel, by decide +kernel⟩, by decide⟩
theorem oy_X11_keep : okY mMod_keep 0 := ⟨gt_in 1015 (by decide +kernel) rfl, gt_in 13 (by decide +kernel) rfl, by decide +kernel, ⟨by decide +kernel, by decide +kernel, by decide +kernel⟩, by decide⟩
theorem oy_X11_lay : okY mMod_lay 0 := ⟨gt_in 1119 (by decide +kernel) rfl, gt_in 13 (by decide +kernel) rfl, by decide +kernel, ⟨by decide +kernel, by decide +kernel, by decide +kernel⟩, by decide⟩
theorem oy_X11_lays : okY mMod_lays 5 := ⟨gt_in 1143 (by decide +kernel) rfl, gt_in 13 (by decide +kernel) rfl, by decide +kernel, ⟨by decide +kernel, by decide +kernel, by decide +kernel⟩, by decide⟩
theorem oy_X11_length : okY mMod_length 1 := ⟨gt_in 1051 (by decide +kernel) rfl, gt_in 13 (by decide +kernel) rfl, by decide +kernel, ⟨by decide +kernel, by decide +kernel, by decide +kernel⟩, by decide⟩
theorem oy_X11_letter : okY mMod_letter 2 := ⟨gt_in 1082 (by decide +kernel) rfl, gt_in 13 (by decide +kernel) rfl, by decide +kernel, ⟨by decide +kernel, by decide +kernel, by decide +kernel⟩, by decide⟩
theorem oy_X11_light : okY mMod_light 2 := ⟨gt_in 1003 (by decide +kernel) rfl, gt_in 13 (by decide +kernel) rfl, by decide +kernel, ⟨by decide +kernel, by decide +kernel, by decide +kernel⟩, by decide⟩
theorem oy_X11_lights : okY mMod_lights 1 := ⟨gt_in 986 (by decide +kernel) rfl, gt_in 13 (by decide +kernel) rfl, by decide +kernel, ⟨by decide +kernel, by decide +kernel, by decide +kernel⟩, by decide⟩
theorem oy_X11_looks : okY mMod_looks 0 := ⟨gt_in 827 (by decide +kernel) rfl, gt_in 13 (by decide +kernel) rfl, by decide +kernel, ⟨by decide +kernel, by decide +kernel, by decide +kernel⟩, by decide⟩
theorem oy_X11_mean : okY mMod_mean 1 := ⟨gt_in 1114 (by decide +kernel) rfl, gt_in 13 (by decide +kernel) rfl, by decide +kernel, ⟨by decide +kernel, by decide +kernel, by decide +kernel⟩, by decide⟩
theorem oy_X11_near : okY mMod_near 2 := ⟨gt_in 1086 (by decide +kernel) rfl, gt_in 13 (by decide +kernel) rfl, by decide +kernel, ⟨by decide +kernel, by decide +kernel, by decide +kernel⟩, by decide⟩
theorem oy_X11_node : okY mMod_node 3 := ⟨gt_in 952 (by decide +kernel) rfl, gt_in 13 (by decide +kernel) rfl, by decide +kernel, ⟨by decide +kernel, by decide +kernel, by decide +kernel⟩, by decide⟩
theorem oy_X11_offered : okY mMod_offered 1 := ⟨gt_in 1094 (by decide +kernel) rfl, gt_in 13 (by decide +kernel) rfl, by decide +kernel, ⟨by decide +kernel, by decide +kernel, by decide +kernel⟩, by decide⟩
theorem oy_X11_offeredAt : okY mMod_offeredAt 1 := ⟨gt_in 1039 (by decide +kernel) rfl, gt_in 13 (by decide +kernel) rfl, by decide +kernel, ⟨by decide +kernel, by decide +kernel, by decide +kernel⟩, by decide⟩
theorem oy_X11_placeOf : okY mMod_placeOf 1 := ⟨gt_in 982 (by decide +kernel) rfl, gt_in 13 (by decide +kernel) rfl, by decide +kernel, ⟨by decide +kernel, by decide +kernel, by decide +kernel⟩, by decide⟩
theorem oy_X11_press : okY mMod_press 0 := ⟨gt_in 1007 (by decide +kernel) rfl, gt_in 13 (by decide +kernel) rfl, by decide +kernel, ⟨by decide +kernel, by decide +kernel, by decide +kernel⟩, by decide⟩
theorem oy_X11_put : okY mMod_put 1 := ⟨gt_in 1019 (by decide +kernel) rfl, gt_in 13 (by decide +kernel) rfl, by decide +kernel, ⟨by decide +kernel, by decide +kernel, by decide +kernel⟩, by decide⟩
theorem oy_X11_ranked : okY mMod_ranked 1 := ⟨gt_in 1035 (by decide +kernel) rfl, gt_in 13 (by decide +kernel) rfl, by decide +kernel, ⟨by decide +kernel, by decide +kernel, by decide +kernel⟩, by decide⟩
theorem oy_X11_set : okY mMod_set 2 := ⟨gt_in 990 (by decide +kernel) rfl, gt_in 13 (by decide +kernel) rfl, by decide +kernel, ⟨by decide +kernel, by decide +kernel, by decide +kernel⟩, by decide⟩
theorem oy_X11_share : okY mMod_share 2 := ⟨gt_in 1098 (by decide +kernel) rfl, gt_in 13 (by decide +kernel) rfl, by decide +kernel, ⟨by decide +kernel, by decide +kernel, by decide +kernel⟩, by decide⟩
theorem oy_X11_state : okY mMod_state 1 := ⟨gt_in 1047 (by decide +kernel) rfl, gt_in 13 (by decide +kernel) rfl, by decide +kernel, ⟨by decide +kernel, by decide +kernel, by decide +kernel⟩, by decide⟩
theorem oy_X11_sums : okY mMod_sums 1 := ⟨gt_in 1123 (by decide +kernel) rfl, gt_in 13 (by decide +kernel) rfl, by decide +kernel, ⟨by decide +kernel, by decide +kernel, by decide +kernel⟩, by decide⟩
theorem oy_X11_thrown : okY mMod_thrown 0 := ⟨gt_in 948 (by decide +kernel) rfl, gt_in 13 (by decide +kernel) rfl, by decide +kernel, ⟨by decide +kernel, by decide +kernel, by decide +kernel⟩, by decide⟩
theorem oy_X11_tick : okY mMod_tick 1 := ⟨gt_in 994 (by decide +kernel) rfl, gt_in 13 (by decide +kernel) rfl, by decide +kernel, ⟨by decide +kernel, by decide +kernel, by decide +kernel⟩, by decide⟩
theorem oy_X11_ticks : okY mMod_ticks 0 := ⟨gt_in 999 (by decide +kernel) rfl, gt_in 13 (by decide +kernel) rfl, by decide +kernel, ⟨by decide +kernel, by decide +kernel, by decide +kernel⟩, by decide⟩
theorem oy_X11_told : okY mMod_told 2 := ⟨gt_in 978 (by decide +kernel) rfl, gt_in 13 (by decide +kernel) rfl, by decide +kernel, ⟨by decide +kernel, by decide +kernel, by decide +kernel⟩, by decide⟩
theorem oy_X11_undo : okY mMod_undo 0 := ⟨gt_in 1023 (by decide +kernel) rfl, gt_in 13 (by decide +kernel) rfl, by decide +kernel, ⟨by decide +kernel, by decide +kernel, by decide +kernel⟩, by decide⟩
theorem oy_X11_weight : okY mMod_weight 2 := ⟨gt_in 1132 (by decide +kernel) rfl, gt_in 13 (by decide +kernel) rfl, by decide +kernel, ⟨by decide +kernel, by decide +kernel, by decide +kernel⟩, by decide⟩
theorem oy_X11_word : okY mMod_word 1 := ⟨gt_in 1070 (by decide +kernel) rfl, gt_in 13 (by decide +kernel) rfl, by decide +kernel, ⟨by decide +kernel, by decide +kernel, by decide +kernel⟩, by decide⟩
theorem oy_X11_written : okY mMod_written 0 := ⟨gt_in 1031 (by decide +kernel) rfl, gt_in 13 (by decide +kernel) rfl, by decide +kernel, ⟨by decide +kernel, by decide +kernel, by decide +kernel⟩, by decide⟩
theorem oy_X1_init : okY mChain_init 2 := ⟨gt_in 164 (by decide +kernel) rfl, gt_in 7 (by decide +kernel) rfl, by decide +kernel, ⟨by decide +kernel, by decide +kernel, by decide +kernel⟩, by decide⟩
theorem oy_X1_signAt : okY mChain_signAt 1 := ⟨gt_in 807 (by decide +kernel) rfl, gt_in 7 (by decide +kernel) rfl, by decide +kernel, ⟨by decide +kernel, by decide +kernel, by decide +kernel⟩, by decide⟩
theorem oy_X1_without : okY mChain_without 1 := ⟨gt_in 452 (by decide +kernel) rfl, gt_in 7 (by decide +kernel) rfl, by decide +kernel, ⟨by decide +kernel, by decide +kernel, by decide +kernel⟩, by decide⟩
theorem oy_X2_enlist : okY mFinder_enlist 2 := ⟨gt_in 502 (by decide +kernel) rfl, gt_in 10 (by decide +kernel) rfl, by decide +kernel, ⟨by decide +kernel, by decide +kernel, by decide +kernel⟩, by decide⟩
theorem oy_X2_found : okY mFinder_found 0 := ⟨gt_in 734 (by decide +kernel) rfl, gt_in 10 (by decide +kernel) rfl, by decide +kernel, ⟨by decide +kernel, by decide +kernel, by decide +kernel⟩, by decide⟩
theorem oy_X2_foundAt : okY mFinder_foundAt 1 := ⟨gt_in 514 (by decide +kernel) rfl, gt_in 10 (by decide +kernel) rfl, by decide +kernel, ⟨by decide +kernel, by decide +kernel, by decide +kernel⟩, by decide⟩
theorem oy_X2_init : okY mFinder_init 3 := ⟨gt_in 240 (by decide +kernel) rfl, gt_in 10 (by decide +kernel) rfl, by decide +kernel, ⟨by decide +kernel, by decide +kernel, by decide +kernel⟩, by decide⟩
theorem oy_X2_isBetter : okY mFinder_isBetter 3 := ⟨gt_in 506 (by decide +kernel) rfl, gt_in 10 (by decide +kernel) rfl, by decide +kernel, ⟨by decide +kernel, by decide +kernel, by decide +kernel⟩, by decide⟩
theorem oy_X2_readWritten : okY mFinder_readWritten 0 := ⟨gt_in 468 (by decide +kernel) rfl, gt_in 10 (by decide +kernel) rfl, by decide +kernel, ⟨by decide +kernel, by decide +kernel, by decide +kernel⟩, by decide⟩
theorem oy_X2_seekForeseen : okY mFinder_seekForeseen 0 := ⟨gt_in 464 (by decide +kernel) rfl, gt_in 10 (by decide +kernel) rfl, by decide +kernel, ⟨by decide +kernel, by decide +kernel, by decide +kernel⟩, by decide⟩
theorem oy_X2_seekOffered : okY mFinder_seekOffered 0 := ⟨gt_in 525 (by decide +kernel) rfl, gt_in 10 (by decide +kernel) rfl, by decide +kernel, ⟨by decide +kernel, by decide +kernel, by decide +kernel⟩, by decide⟩
theorem oy_X2_slipsOf : okY mFinder_slipsOf 2 := ⟨gt_in 534 (by decide +kernel) rfl, gt_in 10 (by decide +kernel) rfl, by decide +kernel, ⟨by decide +kernel, by decide +kernel, by decide +kernel⟩, by decide⟩
theorem oy_X3_change : okY mLamp_change 0 := ⟨gt_in 420 (by decide +kernel) rfl, gt_in 5 (by decide +kernel) rfl, by decide +kernel, ⟨by decide +kernel, by decide +kernel, by decide +kernel⟩, by decide⟩
theorem oy_X3_comeTo : okY mLamp_comeTo 1 := ⟨gt_in 118 (by decide +kernel) rfl, gt_in 5 (by decide +kernel) rfl, by decide +kernel, ⟨by decide +kernel, by decide +kernel, by decide +kernel⟩, by decide⟩
theorem oy_X3_init : okY mLamp_init 2 := ⟨gt_in 113 (by decide +kernel) rfl, gt_in 5 (by decide +kernel) rfl, by decide +kernel, ⟨by decide +kernel, by decide +kernel, by decide +kernel⟩, by decide⟩
theorem oy_X3_pass : okY mLamp_pass 1 := ⟨gt_in 407 (by decide +kernel) rfl, gt_in 5 (by decide +kernel) rfl, by decide +kernel, ⟨by decide +kernel, by decide +kernel, by decide +kernel⟩, by decide⟩
theorem oy_X3_take : okY mLamp_take 0 := ⟨gt_in 432 (by decide +kernel) rfl, gt_in 5 (by decide +kernel) rfl, by decide +kernel, ⟨by decide +kernel, by decide +kernel, by decide +kernel⟩, by decide⟩
theorem oy_X3_tell : okY mLamp_tell 1 := ⟨gt_in 551 (by decide +kernel) rfl, gt_in 5 (by decide +kernel) rfl, by decide +kernel, ⟨by decide +kernel, by decide +kernel, by decide +kernel⟩, by decide⟩
theorem oy_X4_change : okY mNumbers_change 2 := ⟨gt_in 394 (by decide +kernel) rfl, gt_in 2 (by decide +kernel) rfl, by decide +kernel, ⟨by decide +kernel, by decide +kernel, by decide +kernel⟩, by decide⟩
theorem oy_X4_get : okY mNumbers_get 1 := ⟨gt_in 413 (by decide +kernel) rfl, gt_in 2 (by decide +kernel) rfl, by decide +kernel, ⟨by decide +kernel, by decide +kernel, by decide +kernel⟩, by decide⟩
theorem oy_X4_init : okY mNumbers_init 0 := ⟨gt_in 31 (by decide +kernel) rfl, gt_in 2 (by decide +kernel) rfl, by decide +kernel, ⟨by decide +kernel, by decide +kernel, by decide +kernel⟩, by decide⟩
theorem oy_X5_build : okY mPlan_build 1 := ⟨gt_in 715 (by decide +kernel) rfl, gt_in 12 (by decide +kernel) rfl, by decide +kernel, ⟨by decide +kernel, by decide +kernel, by decide +kernel⟩, by decide⟩
theorem oy_X5_costWith : okY mPlan_costWith 3 := ⟨gt_in 699 (by decide +kernel) rfl, gt_in 12 (by decide +kernel) rfl, by decide +kernel, ⟨by decide +kernel, by decide +kernel, by decide +kernel⟩, by decide⟩
theorem oy_X5_firstEnd : okY mPlan_firstEnd 2 := ⟨gt_in 695 (by decide +kernel) rfl, gt_in 12 (by decide +kernel) rfl, by decide +kernel, ⟨by decide +kernel, by decide +kernel, by decide +kernel⟩, by decide⟩
theorem oy_X5_init : okY mPlan_init 2 := ⟨gt_in 287 (by decide +kernel) rfl, gt_in 12 (by decide +kernel) rfl, by decide +kernel, ⟨by decide +kernel, by decide +kernel, by decide +kernel⟩, by decide⟩
theorem oy_X5_isPart : okY mPlan_isPart 2 := ⟨gt_in 706 (by decide +kernel) rfl, gt_in 12 (by decide +kernel) rfl, by decide +kernel, ⟨by decide +kernel, by decide +kernel, by decide +kernel⟩, by decide⟩
theorem oy_X5_leastOf : okY mPlan_leastOf 2 := ⟨gt_in 703 (by decide +kernel) rfl, gt_in 12 (by decide +kernel) rfl, by decide +kernel, ⟨by decide +kernel, by decide +kernel, by decide +kernel⟩, by decide⟩
theorem oy_X5_openAt : okY mPlan_openAt 3 := ⟨gt_in 719 (by decide +kernel) rfl, gt_in 12 (by decide +kernel) rfl, by decide +kernel, ⟨by decide +kernel, by decide +kernel, by decide +kernel⟩, by decide⟩
theorem oy_X5_solve : okY mPlan_solve 1 := ⟨gt_in 685 (by decide +kernel) rfl, gt_in 12 (by decide +kernel) rfl, by decide +kernel, ⟨by decide +kernel, by decide +kernel, by decide +kernel⟩, by decide⟩
theorem oy_X5_sumOf : okY mPlan_sumOf 2 := ⟨gt_in 711 (by decide +kernel) rfl, gt_in 12 (by decide +kernel) rfl, by decide +kernel, ⟨by decide +kernel, by decide +kernel, by decide +kernel⟩, by decide⟩
theorem oy_X6_change : okY mShares_change 2 := ⟨gt_in 635 (by decide +kernel) rfl, gt_in 11 (by decide +kernel) rfl, by decide +kernel, ⟨by decide +kernel, by decide +kernel, by decide +kernel⟩, by decide⟩
theorem oy_X6_commonDivisor : okY mShares_commonDivisor 2 := ⟨gt_in 673 (by decide +kernel) rfl, gt_in 11 (by decide +kernel) rfl, by decide +kernel, ⟨by decide +kernel, by decide +kernel, by decide +kernel⟩, by decide⟩
theorem oy_X6_costOf : okY mShares_costOf 1 := ⟨gt_in 645 (by decide +kernel) rfl, gt_in 11 (by decide +kernel) rfl, by decide +kernel, ⟨by decide +kernel, by decide +kernel, by decide +kernel⟩, by decide⟩
theorem oy_X6_findLeasts : okY mShares_findLeasts 0 := ⟨gt_in 661 (by decide +kernel) rfl, gt_in 11 (by decide +kernel) rfl, by decide +kernel, ⟨by decide +kernel, by decide +kernel, by decide +kernel⟩, by decide⟩
theorem oy_X6_init : okY mShares_init 2 := ⟨gt_in 268 (by decide +kernel) rfl, gt_in 11 (by decide +kernel) rfl, by decide +kernel, ⟨by decide +kernel, by decide +kernel, by decide +kernel⟩, by decide⟩
theorem oy_X6_meanPart : okY mShares_meanPart 1 := ⟨gt_in 656 (by decide +kernel) rfl, gt_in 11 (by decide +kernel) rfl, by decide +kernel, ⟨by decide +kernel, by decide +kernel, by decide +kernel⟩, by decide⟩
theorem oy_X6_shareOf : okY mShares_shareOf 1 := ⟨gt_in 691 (by decide +kernel) rfl, gt_in 11 (by decide +kernel) rfl, by decide +kernel, ⟨by decide +kernel, by decide +kernel, by decide +kernel⟩, by decide⟩
theorem oy_X7_complete : okY mSheet_complete 3 := ⟨gt_in 518 (by decide +kernel) rfl, gt_in 6 (by decide +kernel) rfl, by decide +kernel, ⟨by decide +kernel, by decide +kernel, by decide +kernel⟩, by decide⟩
theorem oy_X7_copyLast : okY mSheet_copyLast 2 := ⟨gt_in 477 (by decide +kernel) rfl, gt_in 6 (by decide +kernel) rfl, by decide +kernel, ⟨by decide +kernel, by decide +kernel, by decide +kernel⟩, by decide⟩
theorem oy_X7_dropLast : okY mSheet_dropLast 0 := ⟨gt_in 448 (by decide +kernel) rfl, gt_in 6 (by decide +kernel) rfl, by decide +kernel, ⟨by decide +kernel, by decide +kernel, by decide +kernel⟩, by decide⟩
theorem oy_X7_init : okY mSheet_init 0 := ⟨gt_in 158 (by decide +kernel) rfl, gt_in 6 (by decide +kernel) rfl, by decide +kernel, ⟨by decide +kernel, by decide +kernel, by decide +kernel⟩, by decide⟩
theorem oy_X7_keep : okY mSheet_keep 0 := ⟨gt_in 444 (by decide +kernel) rfl, gt_in 6 (by decide +kernel) rfl, by decide +kernel, ⟨by decide +kernel, by decide +kernel, by decide +kernel⟩, by decide⟩
theorem oy_X7_part : okY mSheet_part 1 := ⟨gt_in 559 (by decide +kernel) rfl, gt_in 6 (by decide +kernel) rfl, by decide +kernel, ⟨by decide +kernel, by decide +kernel, by decide +kernel⟩, by decide⟩
theorem oy_X7_speak : okY mSheet_speak 0 := ⟨gt_in 460 (by decide +kernel) rfl, gt_in 6 (by decide +kernel) rfl, by decide +kernel, ⟨by decide +kernel, by decide +kernel, by decide +kernel⟩, by decide⟩
theorem oy_X7_takeBack : okY mSheet_takeBack 0 := ⟨gt_in 456 (by decide +kernel) rfl, gt_in 6 (by decide +kernel) rfl, by decide +kernel, ⟨by decide +kernel, by decide +kernel, by decide +kernel⟩, by decide⟩
theorem oy_X7_undoable : okY mSheet_undoable 0 := ⟨gt_in 547 (by decide +kernel) rfl, gt_in 6 (by decide +kernel) rfl, by decide +kernel, ⟨by decide +kernel, by decide +kernel, by decide +kernel⟩, by decide⟩
theorem oy_X7_write : okY mSheet_write 1 := ⟨gt_in 440 (by decide +kernel) rfl, gt_in 6 (by decide +kernel) rfl, by decide +kernel, ⟨by decide +kernel, by decide +kernel, by decide +kernel⟩, by decide⟩
theorem oy_X7_written : okY mSheet_written 0 := ⟨gt_in 472 (by decide +kernel) rfl, gt_in 6 (by decide +kernel) rfl, by decide +kernel, ⟨by decide +kernel, by decide +kernel, by decide +kernel⟩, by decide⟩
theorem oy_X8_cut : okY mTape_cut 1 := ⟨gt_in 578 (by decide +kernel) rfl, gt_in 8 (by decide +kernel) rfl, by decide +kernel, ⟨by decide +kernel, by decide +kernel, by decide +kernel⟩, by decide⟩
theorem oy_X8_fedByte : okY mTape_fedByte 3 := ⟨gt_in 570 (by decide +kernel) rfl, gt_in 8 (by decide +kernel) rfl, by decide +kernel, ⟨by decide +kernel, by decide +kernel, by decide +kernel⟩, by decide⟩
theorem oy_X8_init : okY mTape_init 0 := ⟨gt_in 207 (by decide +kernel) rfl, gt_in 8 (by decide +kernel) rfl, by decide +kernel, ⟨by decide +kernel, by decide +kernel, by decide +kernel⟩, by decide⟩
theorem oy_X8_isRow : okY mTape_isRow 0 := ⟨gt_in 681 (by decide +kernel) rfl, gt_in 8 (by decide +kernel) rfl, by decide +kernel, ⟨by decide +kernel, by decide +kernel, by decide +kernel⟩, by decide⟩
theorem oy_X8_isWord : okY mTape_isWord 0 := ⟨gt_in 592 (by decide +kernel) rfl, gt_in 8 (by decide +kernel) rfl, by decide +kernel, ⟨by decide +kernel, by decide +kernel, by decide +kernel⟩, by decide⟩
theorem oy_X8_lettersAlone : okY mTape_lettersAlone 0 := ⟨gt_in 596 (by decide +kernel) rfl, gt_in 8 (by decide +kernel) rfl, by decide +kernel, ⟨by decide +kernel, by decide +kernel, by decide +kernel⟩, by decide⟩
theorem oy_X8_signAt : okY mTape_signAt 1 := ⟨gt_in 613 (by decide +kernel) rfl, gt_in 8 (by decide +kernel) rfl, by decide +kernel, ⟨by decide +kernel, by decide +kernel, by decide +kernel⟩, by decide⟩
theorem oy_X8_size : okY mTape_size 0 := ⟨gt_in 601 (by decide +kernel) rfl, gt_in 8 (by decide +kernel) rfl, by decide +kernel, ⟨by decide +kernel, by decide +kernel, by decide +kernel⟩, by decide⟩
theorem oy_X8_take : okY mTape_take 2 := ⟨gt_in 567 (by decide +kernel) rfl, gt_in 8 (by decide +kernel) rfl, by decide +kernel, ⟨by decide +kernel, by decide +kernel, by decide +kernel⟩, by decide⟩
theorem oy_X9_add : okY mTray_add 3 := ⟨gt_in 340 (by decide +kernel) rfl, gt_in 3 (by decide +kernel) rfl, by decide +kernel, ⟨by decide +kernel, by decide +kernel, by decide +kernel⟩, by decide⟩
theorem oy_X9_areNeighbours : okY mTray_areNeighbours 2 := ⟨gt_in 539 (by decide +kernel) rfl, gt_in 3 (by decide +kernel) rfl, by decide +kernel, ⟨by decide +kernel, by decide +kernel, by decide +kernel⟩, by decide⟩
theorem oy_X9_behind : okY mTray_behind 1 := ⟨gt_in 424 (by decide +kernel) rfl, gt_in 3 (by decide +kernel) rfl, by decide +kernel, ⟨by decide +kernel, by decide +kernel, by decide +kernel⟩, by decide⟩
theorem oy_X9_empty : okY mTray_empty 0 := ⟨gt_in 47 (by decide +kernel) rfl, gt_in 3 (by decide +kernel) rfl, by decide +kernel, ⟨by decide +kernel, by decide +kernel, by decide +kernel⟩, by decide⟩
theorem oy_X9_findLighted : okY mTray_findLighted 0 := ⟨gt_in 55 (by decide +kernel) rfl, gt_in 3 (by decide +kernel) rfl, by decide +kernel, ⟨by decide +kernel, by decide +kernel, by decide +kernel⟩, by decide⟩
theorem oy_X9_findLights : okY mTray_findLights 0 := ⟨gt_in 51 (by decide +kernel) rfl, gt_in 3 (by decide +kernel) rfl, by decide +kernel, ⟨by decide +kernel, by decide +kernel, by decide +kernel⟩, by decide⟩
theorem oy_X9_firstIn : okY mTray_firstIn 1 := ⟨gt_in 122 (by decide +kernel) rfl, gt_in 3 (by decide +kernel) rfl, by decide +kernel, ⟨by decide +kernel, by decide +kernel, by decide +kernel⟩, by decide⟩
theorem oy_X9_groupOf : okY mTray_groupOf 1 := ⟨gt_in 378 (by decide +kernel) rfl, gt_in 3 (by decide +kernel) rfl, by decide +kernel, ⟨by decide +kernel, by decide +kernel, by decide +kernel⟩, by decide⟩
theorem oy_X9_has : okY mTray_has 1 := ⟨gt_in 59 (by decide +kernel) rfl, gt_in 3 (by decide +kernel) rfl, by decide +kernel, ⟨by decide +kernel, by decide +kernel, by decide +kernel⟩, by decide⟩
theorem oy_X9_hasValue : okY mTray_hasValue 1 := ⟨gt_in 353 (by decide +kernel) rfl, gt_in 3 (by decide +kernel) rfl, by decide +kernel, ⟨by decide +kernel, by decide +kernel, by decide +kernel⟩, by decide⟩
theorem oy_X9_init : okY mTray_init 0 := ⟨gt_in 42 (by decide +kernel) rfl, gt_in 3 (by decide +kernel) rfl, by decide +kernel, ⟨by decide +kernel, by decide +kernel, by decide +kernel⟩, by decide⟩
theorem oy_X9_join : okY mTray_join 2 := ⟨gt_in 70 (by decide +kernel) rfl, gt_in 3 (by decide +kernel) rfl, by decide +kernel, ⟨by decide +kernel, by decide +kernel, by decide +kernel⟩, by decide⟩
theorem oy_X9_kindOf : okY mTray_kindOf 1 := ⟨gt_in 344 (by decide +kernel) rfl, gt_in 3 (by decide +kernel) rfl, by decide +kernel, ⟨by decide +kernel, by decide +kernel, by decide +kernel⟩, by decide⟩
theorem oy_X9_lightsOf : okY mTray_lightsOf 1 := ⟨gt_in 386 (by decide +kernel) rfl, gt_in 3 (by decide +kernel) rfl, by decide +kernel, ⟨by decide +kernel, by decide +kernel, by decide +kernel⟩, by decide⟩
theorem oy_X9_placeOf : okY mTray_placeOf 1 := ⟨gt_in 382 (by decide +kernel) rfl, gt_in 3 (by decide +kernel) rfl, by decide +kernel, ⟨by decide +kernel, by decide +kernel, by decide +kernel⟩, by decide⟩
theorem oy_X9_size : okY mTray_size 0 := ⟨gt_in 666 (by decide +kernel) rfl, gt_in 3 (by decide +kernel) rfl, by decide +kernel, ⟨by decide +kernel, by decide +kernel, by decide +kernel⟩, by decide⟩
theorem oy_X9_standBehind : okY mTray_standBehind 2 := ⟨gt_in 66 (by decide +kernel) rfl, gt_in 3 (by decide +kernel) rfl, by decide +kernel, ⟨by decide +kernel, by decide +kernel, by decide +kernel⟩, by decide⟩
theorem oy_X9_takes : okY mTray_takes 2 := ⟨gt_in 347 (by decide +kernel) rfl, gt_in 3 (by decide +kernel) rfl, by decide +kernel, ⟨by decide +kernel, by decide +kernel, by decide +kernel⟩, by decide⟩
theorem oy_X9_valueOf : okY mTray_valueOf 1 := ⟨gt_in 374 (by decide +kernel) rfl, gt_in 3 (by decide +kernel) rfl, by decide +kernel, ⟨by decide +kernel, by decide +kernel, by decide +kernel⟩, by decide⟩
theorem cv_L_7 : okV RL 7 mDesk_at 2 := ⟨oy_X10_at, gt_in 740 (by decide +kernel) rfl, gt_in 741 (by decide +kernel) rfl, Or.inl (gt_in 739 (by decide +kernel) rfl)⟩
theorem cv_L_15 : okV RL 15 mDesk_letter 2 := ⟨oy_X10_letter, gt_in 813 (by decide +kernel) rfl, gt_in 814 (by decide +kernel) rfl, Or.inl (gt_in 812 (by decide +kernel) rfl)⟩
theorem cv_L_22 : okV RL 22 mDesk_node 3 := ⟨oy_X10_node, gt_in 334 (by decide +kernel) rfl, gt_in 335 (by decide +kernel) rfl, Or.inl (gt_in 333 (by decide +kernel) rfl)⟩
theorem cv_L_26 : okV RL 26 mMod_node 3 := ⟨oy_X11_node, gt_in 950 (by decide +kernel) rfl, gt_in 951 (by decide +kernel) rfl, Or.inl (gt_in 949 (by decide +kernel) rfl)⟩
theorem cv_L_27 : okV RL 27 mDesk_clear 0 := ⟨oy_X10_clear, gt_in 361 (by decide +kernel) rfl, gt_in 362 (by decide +kernel) rfl, Or.inl (gt_in 360 (by decide +kernel) rfl)⟩
theorem cv_L_30 : okV RL 30 mMod_clear 0 := ⟨oy_X11_clear, gt_in 972 (by decide +kernel) rfl, gt_in 973 (by decide +kernel) rfl, Or.inl (gt_in 971 (by decide +kernel) rfl)⟩
theorem cv_L_31 : okV RL 31 mDesk_told 2 := ⟨oy_X10_told, gt_in 366 (by decide +kernel) rfl, gt_in 367 (by decide +kernel) rfl, Or.inl (gt_in 365 (by decide +kernel) rfl)⟩
theorem cv_L_34 : okV RL 34 mMod_told 2 := ⟨oy_X11_told, gt_in 976 (by decide +kernel) rfl, gt_in 977 (by decide +kernel) rfl, Or.inl (gt_in 975 (by decide +kernel) rfl)⟩
theorem cv_L_35 : okV RL 35 mDesk_set 2 := ⟨oy_X10_set, gt_in 388 (by decide +kernel) rfl, gt_in 389 (by decide +kernel) rfl, Or.inl (gt_in 387 (by decide +kernel) rfl)⟩
theorem cv_L_39 : okV RL 39 mMod_set 2 := ⟨oy_X11_set, gt_in 988 (by decide +kernel) rfl, gt_in 989 (by decide +kernel) rfl, Or.inl (gt_in 987 (by decide +kernel) rfl)⟩
theorem cv_L_40 : okV RL 40 mDesk_tick 1 := ⟨oy_X10_tick, gt_in 401 (by decide +kernel) rfl, gt_in 402 (by decide +kernel) rfl, Or.inl (gt_in 400 (by decide +kernel) rfl)⟩
theorem cv_L_44 : okV RL 44 mMod_tick 1 := ⟨oy_X11_tick, gt_in 992 (by decide +kernel) rfl, gt_in 993 (by decide +kernel) rfl, Or.inl (gt_in 991 (by decide +kernel) rfl)⟩
theorem cv_L_45 : okV RL 45 mDesk_press 0 := ⟨oy_X10_press, gt_in 426 (by decide +kernel) rfl, gt_in 427 (by decide +kernel) rfl, Or.inl (gt_in 425 (by decide +kernel) rfl)⟩
theorem cv_L_49 : okV RL 49 mMod_press 0 := ⟨oy_X11_press, gt_in 1005 (by decide +kernel) rfl, gt_in 1006 (by decide +kernel) rfl, Or.inl (gt_in 1004 (by decide +kernel) rfl)⟩
theorem cv_L_50 : okV RL 50 mDesk_state 1 := ⟨oy_X10_state, gt_in 541 (by decide +kernel) rfl, gt_in 542 (by decide +kernel) rfl, Or.inl (gt_in 540 (by decide +kernel) rfl)⟩
theorem cv_L_53 : okV RL 53 mMod_state 1 := ⟨oy_X11_state, gt_in 1045 (by decide +kernel) rfl, gt_in 1046 (by decide +kernel) rfl, Or.inl (gt_in 1044 (by decide +kernel) rfl)⟩
theorem cv_L_54 : okV RL 54 mDesk_length 1 := ⟨oy_X10_length, gt_in 553 (by decide +kernel) rfl, gt_in 554 (by decide +kernel) rfl, Or.inl (gt_in 552 (by decide +kernel) rfl)⟩
theorem cv_L_57 : okV RL 57 mMod_length 1 := ⟨oy_X11_length, gt_in 1049 (by decide +kernel) rfl, gt_in 1050 (by decide +kernel) rfl, Or.inl (gt_in 1048 (by decide +kernel) rfl)⟩
theorem cv_L_63 : okV RL 63 mMod_at 2 := ⟨oy_X11_at, gt_in 1053 (by decide +kernel) rfl, gt_in 1054 (by decide +kernel) rfl, Or.inl (gt_in 1052 (by decide +kernel) rfl)⟩
theorem cv_L_64 : okV RL 64 mMod_thrown 0 := ⟨oy_X11_thrown, gt_in 946 (by decide +kernel) rfl, gt_in 947 (by decide +kernel) rfl, Or.inl (gt_in 945 (by decide +kernel) rfl)⟩
theorem cv_L_67 : okV RL 67 mDesk_feed 2 := ⟨oy_X10_feed, gt_in 561 (by decide +kernel) rfl, gt_in 562 (by decide +kernel) rfl, Or.inl (gt_in 560 (by decide +kernel) rfl)⟩
theorem cv_L_70 : okV RL 70 mMod_feed 2 := ⟨oy_X11_feed, gt_in 1057 (by decide +kernel) rfl, gt_in 1058 (by decide +kernel) rfl, Or.inl (gt_in 1056 (by decide +kernel) rfl)⟩
theorem cv_L_71 : okV RL 71 mDesk_end 1 := ⟨oy_X10_end, gt_in 572 (by decide +kernel) rfl, gt_in 573 (by decide +kernel) rfl, Or.inl (gt_in 571 (by decide +kernel) rfl)⟩
theorem cv_L_75 : okV RL 75 mMod_end 1 := ⟨oy_X11_end, gt_in 1064 (by decide +kernel) rfl, gt_in 1065 (by decide +kernel) rfl, Or.inl (gt_in 1063 (by decide +kernel) rfl)⟩
theorem cv_L_76 : okV RL 76 mDesk_word 1 := ⟨oy_X10_word, gt_in 581 (by decide +kernel) rfl, gt_in 582 (by decide +kernel) rfl, Or.inl (gt_in 580 (by decide +kernel) rfl)⟩
theorem cv_L_79 : okV RL 79 mMod_word 1 := ⟨oy_X11_word, gt_in 1068 (by decide +kernel) rfl, gt_in 1069 (by decide +kernel) rfl, Or.inl (gt_in 1067 (by decide +kernel) rfl)⟩
theorem cv_L_82 : okV RL 82 mMod_letter 2 := ⟨oy_X11_letter, gt_in 1080 (by decide +kernel) rfl, gt_in 1081 (by decide +kernel) rfl, Or.inl (gt_in 1079 (by decide +kernel) rfl)⟩
theorem cv_L_83 : okV RL 83 mDesk_foreseen 1 := ⟨oy_X10_foreseen, gt_in 615 (by decide +kernel) rfl, gt_in 616 (by decide +kernel) rfl, Or.inl (gt_in 614 (by decide +kernel) rfl)⟩
theorem cv_L_86 : okV RL 86 mMod_foreseen 1 := ⟨oy_X11_foreseen, gt_in 1088 (by decide +kernel) rfl, gt_in 1089 (by decide +kernel) rfl, Or.inl (gt_in 1087 (by decide +kernel) rfl)⟩
theorem cv_L_87 : okV RL 87 mDesk_offered 1 := ⟨oy_X10_offered, gt_in 619 (by decide +kernel) rfl, gt_in 620 (by decide +kernel) rfl, Or.inl (gt_in 618 (by decide +kernel) rfl)⟩
theorem cv_L_90 : okV RL 90 mMod_offered 1 := ⟨oy_X11_offered, gt_in 1092 (by decide +kernel) rfl, gt_in 1093 (by decide +kernel) rfl, Or.inl (gt_in 1091 (by decide +kernel) rfl)⟩
theorem cv_L_91 : okV RL 91 mDesk_near 2 := ⟨oy_X10_near, gt_in 623 (by decide +kernel) rfl, gt_in 624 (by decide +kernel) rfl, Or.inl (gt_in 622 (by decide +kernel) rfl)⟩
theorem cv_L_94 : okV RL 94 mMod_near 2 := ⟨oy_X11_near, gt_in 1084 (by decide +kernel) rfl, gt_in 1085 (by decide +kernel) rfl, Or.inl (gt_in 1083 (by decide +kernel) rfl)⟩
theorem cv_L_95 : okV RL 95 mDesk_share 2 := ⟨oy_X10_share, gt_in 629 (by decide +kernel) rfl, gt_in 630 (by decide +kernel) rfl, Or.inl (gt_in 628 (by decide +kernel) rfl)⟩
theorem cv_L_98 : okV RL 98 mMod_share 2 := ⟨oy_X11_share, gt_in 1096 (by decide +kernel) rfl, gt_in 1097 (by decide +kernel) rfl, Or.inl (gt_in 1095 (by decide +kernel) rfl)⟩
theorem cv_L_99 : okV RL 99 mDesk_cost 1 := ⟨oy_X10_cost, gt_in 639 (by decide +kernel) rfl, gt_in 640 (by decide +kernel) rfl, Or.inl (gt_in 638 (by decide +kernel) rfl)⟩
theorem cv_L_102 : okV RL 102 mMod_cost 1 := ⟨oy_X11_cost, gt_in 1100 (by decide +kernel) rfl, gt_in 1101 (by decide +kernel) rfl, Or.inl (gt_in 1099 (by decide +kernel) rfl)⟩
theorem cv_L_103 : okV RL 103 mDesk_mean 1 := ⟨oy_X10_mean, gt_in 650 (by decide +kernel) rfl, gt_in 651 (by decide +kernel) rfl, Or.inl (gt_in 649 (by decide +kernel) rfl)⟩
theorem cv_L_107 : okV RL 107 mMod_mean 1 := ⟨oy_X11_mean, gt_in 1112 (by decide +kernel) rfl, gt_in 1113 (by decide +kernel) rfl, Or.inl (gt_in 1111 (by decide +kernel) rfl)⟩
theorem cv_L_108 : okV RL 108 mDesk_lay 0 := ⟨oy_X10_lay, gt_in 675 (by decide +kernel) rfl, gt_in 676 (by decide +kernel) rfl, Or.inl (gt_in 674 (by decide +kernel) rfl)⟩
theorem cv_L_111 : okV RL 111 mMod_lay 0 := ⟨oy_X11_lay, gt_in 1117 (by decide +kernel) rfl, gt_in 1118 (by decide +kernel) rfl, Or.inl (gt_in 1116 (by decide +kernel) rfl)⟩
theorem cv_L_112 : okV RL 112 mDesk_count 1 := ⟨oy_X10_count, gt_in 724 (by decide +kernel) rfl, gt_in 725 (by decide +kernel) rfl, Or.inl (gt_in 723 (by decide +kernel) rfl)⟩
theorem cv_L_115 : okV RL 115 mMod_count 1 := ⟨oy_X11_count, gt_in 1145 (by decide +kernel) rfl, gt_in 1146 (by decide +kernel) rfl, Or.inl (gt_in 1144 (by decide +kernel) rfl)⟩
theorem cv_X0_25 : okV RX0 25 mTape_isWord 0 := ⟨oy_X8_isWord, gt_in 590 (by decide +kernel) rfl, gt_in 591 (by decide +kernel) rfl, Or.inl (gt_in 589 (by decide +kernel) rfl)⟩
theorem cv_X0_32 : okV RX0 32 mTape_size 0 := ⟨oy_X8_size, gt_in 599 (by decide +kernel) rfl, gt_in 600 (by decide +kernel) rfl, Or.inl (gt_in 598 (by decide +kernel) rfl)⟩
theorem cv_X0_36 : okV RX0 36 mBook_find 2 := ⟨oy_X0_find, gt_in 527 (by decide +kernel) rfl, gt_in 528 (by decide +kernel) rfl, Or.inl (gt_in 602 (by decide +kernel) rfl)⟩
theorem cv_X0_40 : okV RX0 40 mBook_add 1 := ⟨oy_X0_add, gt_in 605 (by decide +kernel) rfl, gt_sel 13 rfl, Or.inl (gt_in 603 (by decide +kernel) rfl)⟩
theorem cv_X0_44 : okV RX0 44 mBook_has 1 := ⟨oy_X0_has, gt_in 488 (by decide +kernel) rfl, gt_sel 8 rfl, Or.inl (gt_in 486 (by decide +kernel) rfl)⟩
theorem cv_X0_57 : okV RX0 57 mTape_signAt 1 := ⟨oy_X8_signAt, gt_in 611 (by decide +kernel) rfl, gt_in 612 (by decide +kernel) rfl, Or.inl (gt_in 610 (by decide +kernel) rfl)⟩
theorem cv_X0_61 : okV RX0 61 mBook_beginsWith 3 := ⟨oy_X0_beginsWith, gt_in 491 (by decide +kernel) rfl, gt_in 492 (by decide +kernel) rfl, Or.inl (gt_in 530 (by decide +kernel) rfl)⟩
theorem cv_X0_65 : okV RX0 65 mBook_sizeOf 1 := ⟨oy_X0_sizeOf, gt_in 483 (by decide +kernel) rfl, gt_in 484 (by decide +kernel) rfl, Or.inl (gt_in 494 (by decide +kernel) rfl)⟩
theorem cv_X0_68 : okV RX0 68 mBook_signOf 2 := ⟨oy_X0_signOf, gt_in 496 (by decide +kernel) rfl, gt_in 497 (by decide +kernel) rfl, Or.inl (gt_in 495 (by decide +kernel) rfl)⟩
theorem cv_X1_20 : okV RX1 20 mChain_without 1 := ⟨oy_X1_without, gt_in 450 (by decide +kernel) rfl, gt_in 451 (by decide +kernel) rfl, Or.inl (gt_in 808 (by decide +kernel) rfl)⟩
theorem cv_X10_78 : okV RX10 78 mTray_add 3 := ⟨oy_X9_add, gt_in 338 (by decide +kernel) rfl, gt_in 339 (by decide +kernel) rfl, Or.inl (gt_in 337 (by decide +kernel) rfl)⟩
theorem cv_X10_82 : okV RX10 82 mDesk_showTrayAnew 0 := ⟨oy_X10_showTrayAnew, gt_in 356 (by decide +kernel) rfl, gt_sel 3 rfl, Or.inl (gt_in 354 (by decide +kernel) rfl)⟩
theorem cv_X10_85 : okV RX10 85 mTray_empty 0 := ⟨oy_X9_empty, gt_in 45 (by decide +kernel) rfl, gt_in 46 (by decide +kernel) rfl, Or.inl (gt_in 364 (by decide +kernel) rfl)⟩
theorem cv_X10_88 : okV RX10 88 mTray_has 1 := ⟨oy_X9_has, gt_in 57 (by decide +kernel) rfl, gt_in 58 (by decide +kernel) rfl, Or.inl (gt_in 369 (by decide +kernel) rfl)⟩
theorem cv_X10_92 : okV RX10 92 mTray_kindOf 1 := ⟨oy_X9_kindOf, gt_in 342 (by decide +kernel) rfl, gt_in 343 (by decide +kernel) rfl, Or.inl (gt_in 370 (by decide +kernel) rfl)⟩
theorem cv_X10_96 : okV RX10 96 mTray_valueOf 1 := ⟨oy_X9_valueOf, gt_in 372 (by decide +kernel) rfl, gt_in 373 (by decide +kernel) rfl, Or.inl (gt_in 371 (by decide +kernel) rfl)⟩
theorem cv_X10_99 : okV RX10 99 mTray_groupOf 1 := ⟨oy_X9_groupOf, gt_in 376 (by decide +kernel) rfl, gt_in 377 (by decide +kernel) rfl, Or.inl (gt_in 375 (by decide +kernel) rfl)⟩
theorem cv_X10_102 : okV RX10 102 mTray_placeOf 1 := ⟨oy_X9_placeOf, gt_in 380 (by decide +kernel) rfl, gt_in 381 (by decide +kernel) rfl, Or.inl (gt_in 379 (by decide +kernel) rfl)⟩
theorem cv_X10_105 : okV RX10 105 mTray_lightsOf 1 := ⟨oy_X9_lightsOf, gt_in 384 (by decide +kernel) rfl, gt_in 385 (by decide +kernel) rfl, Or.inl (gt_in 383 (by decide +kernel) rfl)⟩
theorem cv_X10_108 : okV RX10 108 mNumbers_change 2 := ⟨oy_X4_change, gt_in 392 (by decide +kernel) rfl, gt_in 393 (by decide +kernel) rfl, Or.inl (gt_in 391 (by decide +kernel) rfl)⟩
theorem cv_X10_112 : okV RX10 112 mLamp_pass 1 := ⟨oy_X3_pass, gt_in 405 (by decide +kernel) rfl, gt_in 406 (by decide +kernel) rfl, Or.inl (gt_in 404 (by decide +kernel) rfl)⟩
theorem cv_X10_115 : okV RX10 115 mLamp_take 0 := ⟨oy_X3_take, gt_in 430 (by decide +kernel) rfl, gt_in 431 (by decide +kernel) rfl, Or.inl (gt_in 429 (by decide +kernel) rfl)⟩
theorem cv_X10_119 : okV RX10 119 mLamp_comeTo 1 := ⟨oy_X3_comeTo, gt_in 116 (by decide +kernel) rfl, gt_in 117 (by decide +kernel) rfl, Or.inl (gt_in 359 (by decide +kernel) rfl)⟩
theorem cv_X10_123 : okV RX10 123 mDesk_act 1 := ⟨oy_X10_act, gt_in 435 (by decide +kernel) rfl, gt_sel 5 rfl, Or.inl (gt_in 433 (by decide +kernel) rfl)⟩
theorem cv_X10_126 : okV RX10 126 mSheet_undoable 0 := ⟨oy_X7_undoable, gt_in 545 (by decide +kernel) rfl, gt_in 546 (by decide +kernel) rfl, Or.inl (gt_in 544 (by decide +kernel) rfl)⟩
theorem cv_X10_129 : okV RX10 129 mLamp_tell 1 := ⟨oy_X3_tell, gt_in 549 (by decide +kernel) rfl, gt_in 550 (by decide +kernel) rfl, Or.inl (gt_in 548 (by decide +kernel) rfl)⟩
theorem cv_X10_132 : okV RX10 132 mSheet_part 1 := ⟨oy_X7_part, gt_in 557 (by decide +kernel) rfl, gt_in 558 (by decide +kernel) rfl, Or.inl (gt_in 556 (by decide +kernel) rfl)⟩
theorem cv_X10_145 : okV RX10 145 mChain_signAt 1 := ⟨oy_X1_signAt, gt_in 805 (by decide +kernel) rfl, gt_in 806 (by decide +kernel) rfl, Or.inl (gt_in 804 (by decide +kernel) rfl)⟩
theorem cv_X10_148 : okV RX10 148 mTape_take 2 := ⟨oy_X8_take, gt_in 565 (by decide +kernel) rfl, gt_in 566 (by decide +kernel) rfl, Or.inl (gt_in 564 (by decide +kernel) rfl)⟩
theorem cv_X10_151 : okV RX10 151 mTape_cut 1 := ⟨oy_X8_cut, gt_in 576 (by decide +kernel) rfl, gt_in 577 (by decide +kernel) rfl, Or.inl (gt_in 575 (by decide +kernel) rfl)⟩
theorem cv_X10_154 : okV RX10 154 mBook_take 2 := ⟨oy_X0_take, gt_in 585 (by decide +kernel) rfl, gt_in 586 (by decide +kernel) rfl, Or.inl (gt_in 584 (by decide +kernel) rfl)⟩
theorem cv_X10_157 : okV RX10 157 mBook_sizeOf 1 := ⟨oy_X0_sizeOf, gt_in 483 (by decide +kernel) rfl, gt_in 484 (by decide +kernel) rfl, Or.inl (gt_in 816 (by decide +kernel) rfl)⟩
theorem cv_X10_160 : okV RX10 160 mBook_signOf 2 := ⟨oy_X0_signOf, gt_in 496 (by decide +kernel) rfl, gt_in 497 (by decide +kernel) rfl, Or.inl (gt_in 817 (by decide +kernel) rfl)⟩
theorem cv_X10_163 : okV RX10 163 mFinder_seekForeseen 0 := ⟨oy_X2_seekForeseen, gt_in 462 (by decide +kernel) rfl, gt_in 463 (by decide +kernel) rfl, Or.inl (gt_in 461 (by decide +kernel) rfl)⟩
theorem cv_X10_166 : okV RX10 166 mFinder_foundAt 1 := ⟨oy_X2_foundAt, gt_in 512 (by decide +kernel) rfl, gt_in 513 (by decide +kernel) rfl, Or.inl (gt_in 511 (by decide +kernel) rfl)⟩
theorem cv_X10_169 : okV RX10 169 mFinder_seekOffered 0 := ⟨oy_X2_seekOffered, gt_in 523 (by decide +kernel) rfl, gt_in 524 (by decide +kernel) rfl, Or.inl (gt_in 522 (by decide +kernel) rfl)⟩
theorem cv_X10_175 : okV RX10 175 mTray_areNeighbours 2 := ⟨oy_X9_areNeighbours, gt_in 537 (by decide +kernel) rfl, gt_in 538 (by decide +kernel) rfl, Or.inl (gt_in 627 (by decide +kernel) rfl)⟩
theorem cv_X10_178 : okV RX10 178 mShares_change 2 := ⟨oy_X6_change, gt_in 633 (by decide +kernel) rfl, gt_in 634 (by decide +kernel) rfl, Or.inl (gt_in 632 (by decide +kernel) rfl)⟩
theorem cv_X10_179 : okV RX10 179 mShares_costOf 1 := ⟨oy_X6_costOf, gt_in 643 (by decide +kernel) rfl, gt_in 644 (by decide +kernel) rfl, Or.inl (gt_in 642 (by decide +kernel) rfl)⟩
theorem cv_X10_182 : okV RX10 182 mShares_meanPart 1 := ⟨oy_X6_meanPart, gt_in 654 (by decide +kernel) rfl, gt_in 655 (by decide +kernel) rfl, Or.inl (gt_in 653 (by decide +kernel) rfl)⟩
theorem cv_X10_186 : okV RX10 186 mTape_isRow 0 := ⟨oy_X8_isRow, gt_in 679 (by decide +kernel) rfl, gt_in 680 (by decide +kernel) rfl, Or.inl (gt_in 678 (by decide +kernel) rfl)⟩
theorem cv_X10_190 : okV RX10 190 mPlan_solve 1 := ⟨oy_X5_solve, gt_in 683 (by decide +kernel) rfl, gt_in 684 (by decide +kernel) rfl, Or.inl (gt_in 682 (by decide +kernel) rfl)⟩
theorem cv_X10_194 : okV RX10 194 mPlan_build 1 := ⟨oy_X5_build, gt_in 713 (by decide +kernel) rfl, gt_in 714 (by decide +kernel) rfl, Or.inl (gt_in 712 (by decide +kernel) rfl)⟩
theorem cv_X10_198 : okV RX10 198 mTray_size 0 := ⟨oy_X9_size, gt_in 664 (by decide +kernel) rfl, gt_in 665 (by decide +kernel) rfl, Or.inl (gt_in 727 (by decide +kernel) rfl)⟩
theorem cv_X10_200 : okV RX10 200 mBook_size 0 := ⟨oy_X0_size, gt_in 479 (by decide +kernel) rfl, gt_in 480 (by decide +kernel) rfl, Or.inl (gt_in 728 (by decide +kernel) rfl)⟩
theorem cv_X10_201 : okV RX10 201 mTape_size 0 := ⟨oy_X8_size, gt_in 599 (by decide +kernel) rfl, gt_in 600 (by decide +kernel) rfl, Or.inl (gt_in 729 (by decide +kernel) rfl)⟩
theorem cv_X10_202 : okV RX10 202 mSheet_written 0 := ⟨oy_X7_written, gt_in 470 (by decide +kernel) rfl, gt_in 471 (by decide +kernel) rfl, Or.inl (gt_in 730 (by decide +kernel) rfl)⟩
theorem cv_X10_205 : okV RX10 205 mFinder_found 0 := ⟨oy_X2_found, gt_in 732 (by decide +kernel) rfl, gt_in 733 (by decide +kernel) rfl, Or.inl (gt_in 731 (by decide +kernel) rfl)⟩
theorem cv_X10_208 : okV RX10 208 mTray_findLights 0 := ⟨oy_X9_findLights, gt_in 49 (by decide +kernel) rfl, gt_in 50 (by decide +kernel) rfl, Or.inl (gt_in 358 (by decide +kernel) rfl)⟩
theorem cv_X10_211 : okV RX10 211 mSheet_write 1 := ⟨oy_X7_write, gt_in 438 (by decide +kernel) rfl, gt_in 439 (by decide +kernel) rfl, Or.inl (gt_in 437 (by decide +kernel) rfl)⟩
theorem cv_X10_214 : okV RX10 214 mSheet_dropLast 0 := ⟨oy_X7_dropLast, gt_in 446 (by decide +kernel) rfl, gt_in 447 (by decide +kernel) rfl, Or.inl (gt_in 445 (by decide +kernel) rfl)⟩
theorem cv_X10_217 : okV RX10 217 mSheet_takeBack 0 := ⟨oy_X7_takeBack, gt_in 454 (by decide +kernel) rfl, gt_in 455 (by decide +kernel) rfl, Or.inl (gt_in 453 (by decide +kernel) rfl)⟩
theorem cv_X10_220 : okV RX10 220 mSheet_speak 0 := ⟨oy_X7_speak, gt_in 458 (by decide +kernel) rfl, gt_in 459 (by decide +kernel) rfl, Or.inl (gt_in 457 (by decide +kernel) rfl)⟩
theorem cv_X10_223 : okV RX10 223 mSheet_complete 3 := ⟨oy_X7_complete, gt_in 516 (by decide +kernel) rfl, gt_in 517 (by decide +kernel) rfl, Or.inl (gt_in 515 (by decide +kernel) rfl)⟩
theorem cv_X11_95 : okV RX11 95 mMod_looks 0 := ⟨oy_X11_looks, gt_in 826 (by decide +kernel) rfl, gt_sel 21 rfl, Or.inl (gt_in 824 (by decide +kernel) rfl)⟩
theorem cv_X11_116 : okV RX11 116 mMod_isNode 1 := ⟨oy_X11_isNode, gt_in 955 (by decide +kernel) rfl, gt_sel 22 rfl, Or.inl (gt_in 953 (by decide +kernel) rfl)⟩
theorem cv_X11_127 : okV RX11 127 mMod_adds 3 := ⟨oy_X11_adds, gt_in 965 (by decide +kernel) rfl, gt_sel 23 rfl, Or.inl (gt_in 963 (by decide +kernel) rfl)⟩
theorem cv_X11_131 : okV RX11 131 mMod_comes 1 := ⟨oy_X11_comes, gt_in 969 (by decide +kernel) rfl, gt_sel 24 rfl, Or.inl (gt_in 967 (by decide +kernel) rfl)⟩
theorem cv_X11_135 : okV RX11 135 mMod_placeOf 1 := ⟨oy_X11_placeOf, gt_in 981 (by decide +kernel) rfl, gt_sel 25 rfl, Or.inl (gt_in 979 (by decide +kernel) rfl)⟩
theorem cv_X11_139 : okV RX11 139 mMod_lights 1 := ⟨oy_X11_lights, gt_in 985 (by decide +kernel) rfl, gt_sel 26 rfl, Or.inl (gt_in 983 (by decide +kernel) rfl)⟩
theorem cv_X11_143 : okV RX11 143 mMod_ticks 0 := ⟨oy_X11_ticks, gt_in 998 (by decide +kernel) rfl, gt_sel 27 rfl, Or.inl (gt_in 996 (by decide +kernel) rfl)⟩
theorem cv_X11_146 : okV RX11 146 mMod_light 2 := ⟨oy_X11_light, gt_in 1002 (by decide +kernel) rfl, gt_sel 28 rfl, Or.inl (gt_in 1000 (by decide +kernel) rfl)⟩
theorem cv_X11_153 : okV RX11 153 mMod_acts 1 := ⟨oy_X11_acts, gt_in 1010 (by decide +kernel) rfl, gt_sel 29 rfl, Or.inl (gt_in 1008 (by decide +kernel) rfl)⟩
theorem cv_X11_162 : okV RX11 162 mMod_keep 0 := ⟨oy_X11_keep, gt_in 1014 (by decide +kernel) rfl, gt_sel 30 rfl, Or.inl (gt_in 1012 (by decide +kernel) rfl)⟩
theorem cv_X11_165 : okV RX11 165 mMod_put 1 := ⟨oy_X11_put, gt_in 1018 (by decide +kernel) rfl, gt_sel 31 rfl, Or.inl (gt_in 1016 (by decide +kernel) rfl)⟩
theorem cv_X11_168 : okV RX11 168 mMod_undo 0 := ⟨oy_X11_undo, gt_in 1022 (by decide +kernel) rfl, gt_sel 32 rfl, Or.inl (gt_in 1020 (by decide +kernel) rfl)⟩
theorem cv_X11_171 : okV RX11 171 mMod_foreseenAt 1 := ⟨oy_X11_foreseenAt, gt_in 1026 (by decide +kernel) rfl, gt_sel 33 rfl, Or.inl (gt_in 1024 (by decide +kernel) rfl)⟩
theorem cv_X11_174 : okV RX11 174 mMod_written 0 := ⟨oy_X11_written, gt_in 1030 (by decide +kernel) rfl, gt_sel 34 rfl, Or.inl (gt_in 1028 (by decide +kernel) rfl)⟩
theorem cv_X11_178 : okV RX11 178 mMod_offeredAt 1 := ⟨oy_X11_offeredAt, gt_in 1038 (by decide +kernel) rfl, gt_sel 36 rfl, Or.inl (gt_in 1036 (by decide +kernel) rfl)⟩
theorem cv_X11_187 : okV RX11 187 mMod_isRow 0 := ⟨oy_X11_isRow, gt_in 1073 (by decide +kernel) rfl, gt_sel 38 rfl, Or.inl (gt_in 1071 (by decide +kernel) rfl)⟩
theorem cv_X11_194 : okV RX11 194 mMod_isWord 1 := ⟨oy_X11_isWord, gt_in 1077 (by decide +kernel) rfl, gt_sel 39 rfl, Or.inl (gt_in 1075 (by decide +kernel) rfl)⟩
theorem cv_X11_197 : okV RX11 197 mMod_ranked 1 := ⟨oy_X11_ranked, gt_in 1034 (by decide +kernel) rfl, gt_sel 35 rfl, Or.inl (gt_in 1032 (by decide +kernel) rfl)⟩
theorem cv_X11_200 : okV RX11 200 mMod_areNear 2 := ⟨oy_X11_areNear, gt_in 1042 (by decide +kernel) rfl, gt_sel 37 rfl, Or.inl (gt_in 1040 (by decide +kernel) rfl)⟩
theorem cv_X11_204 : okV RX11 204 mMod_hasKey 1 := ⟨oy_X11_hasKey, gt_in 1105 (by decide +kernel) rfl, gt_sel 40 rfl, Or.inl (gt_in 1103 (by decide +kernel) rfl)⟩
theorem cv_X11_207 : okV RX11 207 mMod_costOf 1 := ⟨oy_X11_costOf, gt_in 1109 (by decide +kernel) rfl, gt_sel 41 rfl, Or.inl (gt_in 1107 (by decide +kernel) rfl)⟩
theorem cv_X11_212 : okV RX11 212 mMod_weight 2 := ⟨oy_X11_weight, gt_in 1131 (by decide +kernel) rfl, gt_sel 44 rfl, Or.inl (gt_in 1129 (by decide +kernel) rfl)⟩
theorem cv_X11_220 : okV RX11 220 mMod_item 3 := ⟨oy_X11_item, gt_in 1127 (by decide +kernel) rfl, gt_sel 43 rfl, Or.inl (gt_in 1125 (by decide +kernel) rfl)⟩
theorem cv_X11_235 : okV RX11 235 mMod_lays 5 := ⟨oy_X11_lays, gt_in 1142 (by decide +kernel) rfl, gt_sel 45 rfl, Or.inl (gt_in 1140 (by decide +kernel) rfl)⟩
theorem cv_X11_239 : okV RX11 239 mMod_sums 1 := ⟨oy_X11_sums, gt_in 1122 (by decide +kernel) rfl, gt_sel 42 rfl, Or.inl (gt_in 1120 (by decide +kernel) rfl)⟩
theorem cv_X2_39 : okV RX2 39 mFinder_readWritten 0 := ⟨oy_X2_readWritten, gt_in 467 (by decide +kernel) rfl, gt_sel 7 rfl, Or.inl (gt_in 465 (by decide +kernel) rfl)⟩
theorem cv_X2_43 : okV RX2 43 mBook_size 0 := ⟨oy_X0_size, gt_in 479 (by decide +kernel) rfl, gt_in 480 (by decide +kernel) rfl, Or.inl (gt_in 478 (by decide +kernel) rfl)⟩
theorem cv_X2_46 : okV RX2 46 mBook_sizeOf 1 := ⟨oy_X0_sizeOf, gt_in 483 (by decide +kernel) rfl, gt_in 484 (by decide +kernel) rfl, Or.inl (gt_in 482 (by decide +kernel) rfl)⟩
theorem cv_X2_50 : okV RX2 50 mBook_beginsWith 3 := ⟨oy_X0_beginsWith, gt_in 491 (by decide +kernel) rfl, gt_in 492 (by decide +kernel) rfl, Or.inl (gt_in 490 (by decide +kernel) rfl)⟩
theorem cv_X2_54 : okV RX2 54 mFinder_enlist 2 := ⟨oy_X2_enlist, gt_in 501 (by decide +kernel) rfl, gt_sel 9 rfl, Or.inl (gt_in 499 (by decide +kernel) rfl)⟩
theorem cv_X2_58 : okV RX2 58 mBook_find 2 := ⟨oy_X0_find, gt_in 527 (by decide +kernel) rfl, gt_in 528 (by decide +kernel) rfl, Or.inl (gt_in 526 (by decide +kernel) rfl)⟩
theorem cv_X2_62 : okV RX2 62 mFinder_slipsOf 2 := ⟨oy_X2_slipsOf, gt_in 533 (by decide +kernel) rfl, gt_sel 11 rfl, Or.inl (gt_in 531 (by decide +kernel) rfl)⟩
theorem cv_X2_66 : okV RX2 66 mSheet_written 0 := ⟨oy_X7_written, gt_in 470 (by decide +kernel) rfl, gt_in 471 (by decide +kernel) rfl, Or.inl (gt_in 469 (by decide +kernel) rfl)⟩
theorem cv_X2_70 : okV RX2 70 mSheet_copyLast 2 := ⟨oy_X7_copyLast, gt_in 475 (by decide +kernel) rfl, gt_in 476 (by decide +kernel) rfl, Or.inl (gt_in 474 (by decide +kernel) rfl)⟩
theorem cv_X2_74 : okV RX2 74 mBook_signOf 2 := ⟨oy_X0_signOf, gt_in 496 (by decide +kernel) rfl, gt_in 497 (by decide +kernel) rfl, Or.inl (gt_in 535 (by decide +kernel) rfl)⟩
theorem cv_X2_77 : okV RX2 77 mTray_areNeighbours 2 := ⟨oy_X9_areNeighbours, gt_in 537 (by decide +kernel) rfl, gt_in 538 (by decide +kernel) rfl, Or.inl (gt_in 536 (by decide +kernel) rfl)⟩
theorem cv_X2_83 : okV RX2 83 mFinder_isBetter 3 := ⟨oy_X2_isBetter, gt_in 505 (by decide +kernel) rfl, gt_sel 10 rfl, Or.inl (gt_in 503 (by decide +kernel) rfl)⟩
theorem cv_X2_87 : okV RX2 87 mBook_timesOf 1 := ⟨oy_X0_timesOf, gt_in 508 (by decide +kernel) rfl, gt_in 509 (by decide +kernel) rfl, Or.inl (gt_in 507 (by decide +kernel) rfl)⟩
theorem cv_X3_19 : okV RX3 19 mLamp_comeTo 1 := ⟨oy_X3_comeTo, gt_in 116 (by decide +kernel) rfl, gt_in 117 (by decide +kernel) rfl, Or.inl (gt_in 115 (by decide +kernel) rfl)⟩
theorem cv_X3_27 : okV RX3 27 mTray_firstIn 1 := ⟨oy_X9_firstIn, gt_in 120 (by decide +kernel) rfl, gt_in 121 (by decide +kernel) rfl, Or.inl (gt_in 119 (by decide +kernel) rfl)⟩
theorem cv_X3_53 : okV RX3 53 mNumbers_get 1 := ⟨oy_X4_get, gt_in 411 (by decide +kernel) rfl, gt_in 412 (by decide +kernel) rfl, Or.inl (gt_in 410 (by decide +kernel) rfl)⟩
theorem cv_X3_64 : okV RX3 64 mLamp_change 0 := ⟨oy_X3_change, gt_in 419 (by decide +kernel) rfl, gt_sel 4 rfl, Or.inl (gt_in 417 (by decide +kernel) rfl)⟩
theorem cv_X3_67 : okV RX3 67 mTray_behind 1 := ⟨oy_X9_behind, gt_in 422 (by decide +kernel) rfl, gt_in 423 (by decide +kernel) rfl, Or.inl (gt_in 421 (by decide +kernel) rfl)⟩
theorem cv_X5_33 : okV RX5 33 mTape_size 0 := ⟨oy_X8_size, gt_in 599 (by decide +kernel) rfl, gt_in 600 (by decide +kernel) rfl, Or.inl (gt_in 686 (by decide +kernel) rfl)⟩
theorem cv_X5_37 : okV RX5 37 mTape_signAt 1 := ⟨oy_X8_signAt, gt_in 611 (by decide +kernel) rfl, gt_in 612 (by decide +kernel) rfl, Or.inl (gt_in 687 (by decide +kernel) rfl)⟩
theorem cv_X5_41 : okV RX5 41 mShares_shareOf 1 := ⟨oy_X6_shareOf, gt_in 689 (by decide +kernel) rfl, gt_in 690 (by decide +kernel) rfl, Or.inl (gt_in 688 (by decide +kernel) rfl)⟩
theorem cv_X5_46 : okV RX5 46 mPlan_firstEnd 2 := ⟨oy_X5_firstEnd, gt_in 694 (by decide +kernel) rfl, gt_sel 15 rfl, Or.inl (gt_in 692 (by decide +kernel) rfl)⟩
theorem cv_X5_50 : okV RX5 50 mPlan_costWith 3 := ⟨oy_X5_costWith, gt_in 698 (by decide +kernel) rfl, gt_sel 16 rfl, Or.inl (gt_in 696 (by decide +kernel) rfl)⟩
theorem cv_X5_54 : okV RX5 54 mPlan_leastOf 2 := ⟨oy_X5_leastOf, gt_in 702 (by decide +kernel) rfl, gt_sel 17 rfl, Or.inl (gt_in 700 (by decide +kernel) rfl)⟩
theorem cv_X5_57 : okV RX5 57 mNumbers_get 1 := ⟨oy_X4_get, gt_in 411 (by decide +kernel) rfl, gt_in 412 (by decide +kernel) rfl, Or.inl (gt_in 707 (by decide +kernel) rfl)⟩
theorem cv_X5_62 : okV RX5 62 mPlan_sumOf 2 := ⟨oy_X5_sumOf, gt_in 710 (by decide +kernel) rfl, gt_sel 18 rfl, Or.inl (gt_in 708 (by decide +kernel) rfl)⟩
theorem cv_X5_69 : okV RX5 69 mPlan_openAt 3 := ⟨oy_X5_openAt, gt_in 718 (by decide +kernel) rfl, gt_sel 19 rfl, Or.inl (gt_in 716 (by decide +kernel) rfl)⟩
theorem cv_X5_73 : okV RX5 73 mTray_add 3 := ⟨oy_X9_add, gt_in 338 (by decide +kernel) rfl, gt_in 339 (by decide +kernel) rfl, Or.inl (gt_in 722 (by decide +kernel) rfl)⟩
theorem cv_X5_76 : okV RX5 76 mTray_groupOf 1 := ⟨oy_X9_groupOf, gt_in 376 (by decide +kernel) rfl, gt_in 377 (by decide +kernel) rfl, Or.inl (gt_in 720 (by decide +kernel) rfl)⟩
theorem cv_X6_34 : okV RX6 34 mTray_placeOf 1 := ⟨oy_X9_placeOf, gt_in 380 (by decide +kernel) rfl, gt_in 381 (by decide +kernel) rfl, Or.inl (gt_in 646 (by decide +kernel) rfl)⟩
theorem cv_X6_40 : okV RX6 40 mNumbers_get 1 := ⟨oy_X4_get, gt_in 411 (by decide +kernel) rfl, gt_in 412 (by decide +kernel) rfl, Or.inl (gt_in 647 (by decide +kernel) rfl)⟩
theorem cv_X6_45 : okV RX6 45 mTray_groupOf 1 := ⟨oy_X9_groupOf, gt_in 376 (by decide +kernel) rfl, gt_in 377 (by decide +kernel) rfl, Or.inl (gt_in 648 (by decide +kernel) rfl)⟩
theorem cv_X6_50 : okV RX6 50 mShares_findLeasts 0 := ⟨oy_X6_findLeasts, gt_in 660 (by decide +kernel) rfl, gt_sel 14 rfl, Or.inl (gt_in 658 (by decide +kernel) rfl)⟩
theorem cv_X6_63 : okV RX6 63 mTray_size 0 := ⟨oy_X9_size, gt_in 664 (by decide +kernel) rfl, gt_in 665 (by decide +kernel) rfl, Or.inl (gt_in 663 (by decide +kernel) rfl)⟩
theorem cv_X6_67 : okV RX6 67 mTray_valueOf 1 := ⟨oy_X9_valueOf, gt_in 372 (by decide +kernel) rfl, gt_in 373 (by decide +kernel) rfl, Or.inl (gt_in 667 (by decide +kernel) rfl)⟩
theorem cv_X6_70 : okV RX6 70 mTray_kindOf 1 := ⟨oy_X9_kindOf, gt_in 342 (by decide +kernel) rfl, gt_in 343 (by decide +kernel) rfl, Or.inl (gt_in 668 (by decide +kernel) rfl)⟩
theorem cv_X6_73 : okV RX6 73 mShares_costOf 1 := ⟨oy_X6_costOf, gt_in 643 (by decide +kernel) rfl, gt_in 644 (by decide +kernel) rfl, Or.inl (gt_in 669 (by decide +kernel) rfl)⟩
theorem cv_X7_50 : okV RX7 50 mSheet_keep 0 := ⟨oy_X7_keep, gt_in 443 (by decide +kernel) rfl, gt_sel 6 rfl, Or.inl (gt_in 441 (by decide +kernel) rfl)⟩
theorem cv_X7_53 : okV RX7 53 mChain_without 1 := ⟨oy_X1_without, gt_in 450 (by decide +kernel) rfl, gt_in 451 (by decide +kernel) rfl, Or.inl (gt_in 449 (by decide +kernel) rfl)⟩
theorem cv_X7_57 : okV RX7 57 mBook_sizeOf 1 := ⟨oy_X0_sizeOf, gt_in 483 (by decide +kernel) rfl, gt_in 484 (by decide +kernel) rfl, Or.inl (gt_in 519 (by decide +kernel) rfl)⟩
theorem cv_X7_63 : okV RX7 63 mSheet_written 0 := ⟨oy_X7_written, gt_in 470 (by decide +kernel) rfl, gt_in 471 (by decide +kernel) rfl, Or.inl (gt_in 520 (by decide +kernel) rfl)⟩
theorem cv_X7_67 : okV RX7 67 mBook_signOf 2 := ⟨oy_X0_signOf, gt_in 496 (by decide +kernel) rfl, gt_in 497 (by decide +kernel) rfl, Or.inl (gt_in 521 (by decide +kernel) rfl)⟩
theorem cv_X8_27 : okV RX8 27 mTape_lettersAlone 0 := ⟨oy_X8_lettersAlone, gt_in 595 (by decide +kernel) rfl, gt_sel 12 rfl, Or.inl (gt_in 593 (by decide +kernel) rfl)⟩
theorem cv_X9_43 : okV RX9 43 mTray_empty 0 := ⟨oy_X9_empty, gt_in 45 (by decide +kernel) rfl, gt_in 46 (by decide +kernel) rfl, Or.inl (gt_in 44 (by decide +kernel) rfl)⟩
theorem cv_X9_46 : okV RX9 46 mTray_findLights 0 := ⟨oy_X9_findLights, gt_in 49 (by decide +kernel) rfl, gt_in 50 (by decide +kernel) rfl, Or.inl (gt_in 48 (by decide +kernel) rfl)⟩
theorem cv_X9_53 : okV RX9 53 mTray_kindOf 1 := ⟨oy_X9_kindOf, gt_in 342 (by decide +kernel) rfl, gt_in 343 (by decide +kernel) rfl, Or.inl (gt_in 341 (by decide +kernel) rfl)⟩
theorem cv_X9_72 : okV RX9 72 mTray_findLighted 0 := ⟨oy_X9_findLighted, gt_in 54 (by decide +kernel) rfl, gt_sel 0 rfl, Or.inl (gt_in 52 (by decide +kernel) rfl)⟩
theorem cv_X9_81 : okV RX9 81 mTray_has 1 := ⟨oy_X9_has, gt_in 57 (by decide +kernel) rfl, gt_in 58 (by decide +kernel) rfl, Or.inl (gt_in 56 (by decide +kernel) rfl)⟩
theorem cv_X9_84 : okV RX9 84 mTray_standBehind 2 := ⟨oy_X9_standBehind, gt_in 65 (by decide +kernel) rfl, gt_sel 1 rfl, Or.inl (gt_in 63 (by decide +kernel) rfl)⟩
theorem cv_X9_88 : okV RX9 88 mTray_join 2 := ⟨oy_X9_join, gt_in 69 (by decide +kernel) rfl, gt_sel 2 rfl, Or.inl (gt_in 67 (by decide +kernel) rfl)⟩
theorem cs_X0_21 : okS RX0 21 mDesk_within 3 := ⟨oy_X10_within, gt_in 349 (by decide +kernel) rfl, Or.inr ⟨"SwitchDesk", nst_in 588 (by decide +kernel)⟩⟩
theorem cs_X10_172 : okS RX10 172 mDesk_isLetter 1 := ⟨oy_X10_isLetter, gt_in 72 (by decide +kernel) rfl, Or.inl (gt_in 626 (by decide +kernel) rfl)⟩
theorem cs_X11_120 : okS RX11 120 mMod_isIn 3 := ⟨oy_X11_isIn, gt_in 958 (by decide +kernel) rfl, Or.inl (gt_in 957 (by decide +kernel) rfl)⟩
theorem cs_X11_124 : okS RX11 124 mMod_isSmall 1 := ⟨oy_X11_isSmall, gt_in 961 (by decide +kernel) rfl, Or.inl (gt_in 960 (by decide +kernel) rfl)⟩
theorem cs_X11_184 : okS RX11 184 mMod_bytesIn 1 := ⟨oy_X11_bytesIn, gt_in 1061 (by decide +kernel) rfl, Or.inl (gt_in 1060 (by decide +kernel) rfl)⟩
theorem cs_X11_224 : okS RX11 224 mMod_index 3 := ⟨oy_X11_index, gt_in 1134 (by decide +kernel) rfl, Or.inl (gt_in 1133 (by decide +kernel) rfl)⟩
theorem cs_X3_48 : okS RX3 48 mDesk_within 3 := ⟨oy_X10_within, gt_in 349 (by decide +kernel) rfl, Or.inr ⟨"SwitchDesk", nst_in 408 (by decide +kernel)⟩⟩
theorem cs_X4_15 : okS RX4 15 mDesk_within 3 := ⟨oy_X10_within, gt_in 349 (by decide +kernel) rfl, Or.inr ⟨"SwitchDesk", nst_in 395 (by decide +kernel)⟩⟩
theorem cs_X5_65 : okS RX5 65 mPlan_isPart 2 := ⟨oy_X5_isPart, gt_in 705 (by decide +kernel) rfl, Or.inl (gt_in 704 (by decide +kernel) rfl)⟩
theorem cs_X6_26 : okS RX6 26 mDesk_isLetter 1 := ⟨oy_X10_isLetter, gt_in 72 (by decide +kernel) rfl, Or.inr ⟨"SwitchDesk", nst_in 636 (by decide +kernel)⟩⟩
theorem cs_X6_30 : okS RX6 30 mDesk_within 3 := ⟨oy_X10_within, gt_in 349 (by decide +kernel) rfl, Or.inr ⟨"SwitchDesk", nst_in 637 (by decide +kernel)⟩⟩
theorem cs_X6_53 : okS RX6 53 mShares_commonDivisor 2 := ⟨oy_X6_commonDivisor, gt_in 672 (by decide +kernel) rfl, Or.inl (gt_in 671 (by decide +kernel) rfl)⟩
theorem cs_X6_57 : okS RX6 57 mArrays_fill 2 := ⟨oy_J7_fill_53178, gt_in 61 (by decide +kernel) rfl, Or.inl (gt_in 662 (by decide +kernel) rfl)⟩
theorem cs_X7_43 : okS RX7 43 mDesk_isLetter 1 := ⟨oy_X10_isLetter, gt_in 72 (by decide +kernel) rfl, Or.inr ⟨"SwitchDesk", nst_in 473 (by decide +kernel)⟩⟩
theorem cs_X8_15 : okS RX8 15 mTape_fedByte 3 := ⟨oy_X8_fedByte, gt_in 569 (by decide +kernel) rfl, Or.inl (gt_in 568 (by decide +kernel) rfl)⟩
theorem cs_X8_23 : okS RX8 23 mDesk_within 3 := ⟨oy_X10_within, gt_in 349 (by decide +kernel) rfl, Or.inr ⟨"SwitchDesk", nst_in 579 (by decide +kernel)⟩⟩
theorem cs_X8_31 : okS RX8 31 mDesk_isLetter 1 := ⟨oy_X10_isLetter, gt_in 72 (by decide +kernel) rfl, Or.inr ⟨"SwitchDesk", nst_in 597 (by decide +kernel)⟩⟩
theorem cs_X9_57 : okS RX9 57 mTray_takes 2 := ⟨oy_X9_takes, gt_in 346 (by decide +kernel) rfl, Or.inl (gt_in 345 (by decide +kernel) rfl)⟩
theorem cs_X9_61 : okS RX9 61 mTray_hasValue 1 := ⟨oy_X9_hasValue, gt_in 352 (by decide +kernel) rfl, Or.inl (gt_in 351 (by decide +kernel) rfl)⟩
theorem cs_X9_65 : okS RX9 65 mDesk_isLetter 1 := ⟨oy_X10_isLetter, gt_in 72 (by decide +kernel) rfl, Or.inr ⟨"SwitchDesk", nst_in 71 (by decide +kernel)⟩⟩
theorem cs_X9_68 : okS RX9 68 mDesk_within 3 := ⟨oy_X10_within, gt_in 349 (by decide +kernel) rfl, Or.inr ⟨"SwitchDesk", nst_in 348 (by decide +kernel)⟩⟩
theorem cs_X9_75 : okS RX9 75 mArrays_fill 2 := ⟨oy_J7_fill_53178, gt_in 61 (by decide +kernel) rfl, Or.inl (gt_in 60 (by decide +kernel) rfl)⟩
theorem ci_L_18 : okI RL 18 mDesk_init 0 := ⟨oy_X10_init, rfl, rfl, gt_in 22 (by decide +kernel) rfl, Or.inl (gt_in 21 (by decide +kernel) rfl)⟩
theorem ci_L_21 : okI RL 21 mMod_init 0 := ⟨oy_X11_init, rfl, rfl, gt_in 821 (by decide +kernel) rfl, Or.inl (gt_in 820 (by decide +kernel) rfl)⟩
theorem ci_X10_9 : okI RX10 9 mNumbers_init 0 := ⟨oy_X4_init, rfl, rfl, gt_in 30 (by decide +kernel) rfl, Or.inr ⟨"SwitchDesk", nst_in 29 (by decide +kernel)⟩⟩
theorem ci_X10_18 : okI RX10 18 mTray_init 0 := ⟨oy_X9_init, rfl, rfl, gt_in 41 (by decide +kernel) rfl, Or.inl (gt_in 40 (by decide +kernel) rfl)⟩
theorem ci_X10_25 : okI RX10 25 mLamp_init 2 := ⟨oy_X3_init, rfl, rfl, gt_in 112 (by decide +kernel) rfl, Or.inl (gt_in 111 (by decide +kernel) rfl)⟩
theorem ci_X10_34 : okI RX10 34 mSheet_init 0 := ⟨oy_X7_init, rfl, rfl, gt_in 157 (by decide +kernel) rfl, Or.inr ⟨"SwitchDesk", nst_in 156 (by decide +kernel)⟩⟩
theorem ci_X10_41 : okI RX10 41 mTape_init 0 := ⟨oy_X8_init, rfl, rfl, gt_in 206 (by decide +kernel) rfl, Or.inr ⟨"SwitchDesk", nst_in 205 (by decide +kernel)⟩⟩
theorem ci_X10_48 : okI RX10 48 mBook_init 0 := ⟨oy_X0_init, rfl, rfl, gt_in 220 (by decide +kernel) rfl, Or.inr ⟨"SwitchDesk", nst_in 219 (by decide +kernel)⟩⟩
theorem ci_X10_55 : okI RX10 55 mFinder_init 3 := ⟨oy_X2_init, rfl, rfl, gt_in 239 (by decide +kernel) rfl, Or.inl (gt_in 238 (by decide +kernel) rfl)⟩
theorem ci_X10_64 : okI RX10 64 mShares_init 2 := ⟨oy_X6_init, rfl, rfl, gt_in 267 (by decide +kernel) rfl, Or.inl (gt_in 266 (by decide +kernel) rfl)⟩
theorem ci_X10_71 : okI RX10 71 mPlan_init 2 := ⟨oy_X5_init, rfl, rfl, gt_in 286 (by decide +kernel) rfl, Or.inl (gt_in 285 (by decide +kernel) rfl)⟩
theorem ci_X7_11 : okI RX7 11 mChain_init 2 := ⟨oy_X1_init, rfl, rfl, gt_in 163 (by decide +kernel) rfl, Or.inl (gt_in 162 (by decide +kernel) rfl)⟩
theorem ob_i : Cond.instanceMethod Lib.objectInit ∈ GT := gt_in 25 (by decide +kernel) rfl
theorem ob_c : Cond.code Lib.objectInit ⟨#[0xb1]⟩ 1 none ∈ GT := gt_in 26 (by decide +kernel) rfl
end
section
/-! Math.max, Math.min, the constants -/
section EMa
variable {y : MI} {d k n pc : Nat} {lv : List (Nat × Value)} {st : List Value} {h : HP} {Q : Option Value → HP → Prop}
theorem ml_max : Cond.static Lib.Math.max.name ∈ GT ∧ Cond.code Lib.Math.max.name Lib.Math.max.code 2 (some .int) ∈ GT ∧ Cond.initialized "java/lang/Math" ∈ GT := ⟨gt_in 415 (by decide +kernel) rfl, gt_in 416 (by decide +kernel) rfl, gt_in 14 (by decide +kernel) rfl⟩
theorem ml_min : Cond.static Lib.Math.min.name ∈ GT ∧ Cond.code Lib.Math.min.name Lib.Math.min.code 2 (some .int) ∈ GT := ⟨gt_in 608 (by decide +kernel) rfl, gt_in 609 (by decide +kernel) rfl⟩
theorem ml_lmin : Cond.static Lib.MathLoose.min_long.x ∈ GT ∧ Cond.code Lib.MathLoose.min_long.x Lib.MathLoose.min_long.code 4 (some .long) ∈ GT := ⟨gt_in 1137 (by decide +kernel) rfl, gt_in 1138 (by decide +kernel) rfl⟩
theorem E_mmax {idx : Nat} {a b : Int32} (hd : decode y.2.1 pc = .ok (.invokestatic idx, 3)) (hg : Cond.methodLink y.1.cls idx Lib.Math.max.name ∈ GT) (hd1 : 1 ≤ d) (hw : (st.map fun v => v.category).sum ≤ 8) (K : E y d k n (pc + 3) lv (.int (if a < b then b else a) :: st) h Q) : E y d k n pc lv (.int b :: .int a :: st) h Q := by
  intro p l e R s m args below meth c H locs cells slots mc ms N0 B D ca tys ls c1 c2 c3 c4 c5 c6 c7 c8
  have hts := c1.2.2.2.2.2.1
  exact va_mmax c1.1 c1.2.1 (c1.2.2.2.1.trans c8.1.symm) c1.2.2.2.2.1 (hts _ hg) (hts _ ml_max.1) (hts _ ml_max.2.2) (hts _ ml_max.2.1) (Nat.le_trans hd1 c2.1) (by rw [cat_map]; have := c2.2.1; omega) (by have := c2.2.2.1; omega) (by have := c2.2.2.2; omega) hd (K p l e R s m args below meth c H locs cells slots mc ms N0 B D ca tys ls c1 c2 c3 c4 c5 c6 c7 c8)
theorem E_mmin {idx : Nat} {a b : Int32} (hd : decode y.2.1 pc = .ok (.invokestatic idx, 3)) (hg : Cond.methodLink y.1.cls idx Lib.Math.min.name ∈ GT) (hd1 : 1 ≤ d) (hw : (st.map fun v => v.category).sum ≤ 8) (K : E y d k n (pc + 3) lv (.int (if b < a then b else a) :: st) h Q) : E y d k n pc lv (.int b :: .int a :: st) h Q := by
  intro p l e R s m args below meth c H locs cells slots mc ms N0 B D ca tys ls c1 c2 c3 c4 c5 c6 c7 c8
  have hts := c1.2.2.2.2.2.1
  exact va_mmin c1.1 c1.2.1 (c1.2.2.2.1.trans c8.1.symm) c1.2.2.2.2.1 (hts _ hg) (hts _ ml_min.1) (hts _ ml_max.2.2) (hts _ ml_min.2) (Nat.le_trans hd1 c2.1) (by rw [cat_map]; have := c2.2.1; omega) (by have := c2.2.2.1; omega) (by have := c2.2.2.2; omega) hd (K p l e R s m args below meth c H locs cells slots mc ms N0 B D ca tys ls c1 c2 c3 c4 c5 c6 c7 c8)
theorem E_lmin {idx : Nat} {a b : Int64} (hd : decode y.2.1 pc = .ok (.invokestatic idx, 3)) (hg : Cond.methodLink y.1.cls idx Lib.MathLoose.min_long.x ∈ GT) (hd1 : 1 ≤ d) (hw : (st.map fun v => v.category).sum ≤ 8) (K : E y d k n (pc + 3) lv (.long (if b < a then b else a) :: st) h Q) : E y d k n pc lv (.long b :: .long a :: st) h Q := by
  intro p l e R s m args below meth c H locs cells slots mc ms N0 B D ca tys ls c1 c2 c3 c4 c5 c6 c7 c8
  have hts := c1.2.2.2.2.2.1
  exact va_mmin_long c1.1 c1.2.1 (c1.2.2.2.1.trans c8.1.symm) c1.2.2.2.2.1 (hts _ hg) (hts _ ml_lmin.1) (hts _ ml_max.2.2) (hts _ ml_lmin.2) (Nat.le_trans hd1 c2.1) (by rw [cat_map]; have := c2.2.1; omega) (by have := c2.2.2.1; omega) (by have := c2.2.2.2; omega) hd (K p l e R s m args below meth c H locs cells slots mc ms N0 B D ca tys ls c1 c2 c3 c4 c5 c6 c7 c8)
theorem k_52 : Cond.constant RX3 52 1000000 ∈ GT := gt_in 409 (by decide +kernel) rfl
theorem k_142 : Cond.constant RX11 142 1000000 ∈ GT := gt_in 995 (by decide +kernel) rfl
theorem k_48 : Cond.constantLong RX6 48 (-1) ∈ GT := gt_in 657 (by decide +kernel) rfl
theorem k_210 : Cond.constantLong RX11 210 (-1) ∈ GT := gt_in 1115 (by decide +kernel) rfl
theorem k_218 : Cond.constantLong RX11 218 9223372036854775807 ∈ GT := gt_in 1124 (by decide +kernel) rfl
theorem k_233 : Cond.constantLong RX11 233 2305843009213693951 ∈ GT := gt_in 1139 (by decide +kernel) rfl
theorem a_int : Cond.arrayClass (kty 0) ∈ GT := gt_in 37 (by decide +kernel) rfl
theorem a_bool : Cond.arrayClass (kty 1) ∈ GT := gt_in 108 (by decide +kernel) rfl
theorem a_byte : Cond.arrayClass (kty 2) ∈ GT := gt_in 943 (by decide +kernel) rfl
theorem a_long : Cond.arrayClass (kty 3) ∈ GT := gt_in 944 (by decide +kernel) rfl
theorem mt_X3_58 : Cond.methodLink RX3 58 Lib.Math.max.name ∈ GT := gt_in 414 (by decide +kernel) rfl
theorem mt_X0_51 : Cond.methodLink RX0 51 Lib.Math.min.name ∈ GT := gt_in 607 (by decide +kernel) rfl
theorem mt_X6_76 : Cond.methodLink RX6 76 Lib.Math.min.name ∈ GT := gt_in 670 (by decide +kernel) rfl
theorem mt_X5_79 : Cond.methodLink RX5 79 Lib.Math.max.name ∈ GT := gt_in 721 (by decide +kernel) rfl
theorem mt_X11_227 : Cond.methodLink RX11 227 Lib.MathLoose.min_long.x ∈ GT := gt_in 1136 (by decide +kernel) rfl
theorem ck_X7_9 : Cond.classLink RX7 9 "SwitchDesk$Chain" ∈ GT := gt_in 160 (by decide +kernel) rfl
theorem fs_X4_19 : Cond.fieldLink RX4 19 "SwitchDesk$Numbers" "LOWEST" "[I" ∈ GT := gt_in 396 (by decide +kernel) rfl
theorem fs_X4_22 : Cond.fieldLink RX4 22 "SwitchDesk$Numbers" "HIGHEST" "[I" ∈ GT := gt_in 398 (by decide +kernel) rfl
end EMa
end
