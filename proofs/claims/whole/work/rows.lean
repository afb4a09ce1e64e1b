section
-- ===== PART A: goes FIRST, ahead of the names: the tables' words, and 'selects' of the private methods out of them =====
/-- a private method of a class that the tables say can be made, by its rows of tables_1 -/
def lw_okq (q : MethodName × Nat) : Prop := (q.1.cls ≠ "java/lang/invoke/MethodHandle" ∧ q.1.cls ≠ "java/lang/invoke/VarHandle") ∧ Cond.instantiable q.1.cls q.2 ∈ tables_1 ∧ Cond.privateMethod q.1 ∈ tables_1 ∧ Cond.instanceMethod q.1 ∈ tables_1
theorem lw_p0 : lw_okq (⟨"SwitchDesk$Tray", "findLighted", "()V"⟩, 11) := ⟨⟨by decide +kernel, by decide +kernel⟩, List.mem_of_getElem? (i := 39) (by decide +kernel), List.mem_of_getElem? (i := 53) (by decide +kernel), List.mem_of_getElem? (i := 54) (by decide +kernel)⟩
theorem lw_p1 : lw_okq (⟨"SwitchDesk$Tray", "standBehind", "(II)V"⟩, 11) := ⟨⟨by decide +kernel, by decide +kernel⟩, List.mem_of_getElem? (i := 39) (by decide +kernel), List.mem_of_getElem? (i := 64) (by decide +kernel), List.mem_of_getElem? (i := 65) (by decide +kernel)⟩
theorem lw_p2 : lw_okq (⟨"SwitchDesk$Tray", "join", "(II)V"⟩, 11) := ⟨⟨by decide +kernel, by decide +kernel⟩, List.mem_of_getElem? (i := 39) (by decide +kernel), List.mem_of_getElem? (i := 68) (by decide +kernel), List.mem_of_getElem? (i := 69) (by decide +kernel)⟩
theorem lw_p3 : lw_okq (⟨"SwitchDesk", "showTrayAnew", "()V"⟩, 9) := ⟨⟨by decide +kernel, by decide +kernel⟩, List.mem_of_getElem? (i := 20) (by decide +kernel), List.mem_of_getElem? (i := 355) (by decide +kernel), List.mem_of_getElem? (i := 356) (by decide +kernel)⟩
theorem lw_p4 : lw_okq (⟨"SwitchDesk$Lamp", "change", "()V"⟩, 10) := ⟨⟨by decide +kernel, by decide +kernel⟩, List.mem_of_getElem? (i := 110) (by decide +kernel), List.mem_of_getElem? (i := 418) (by decide +kernel), List.mem_of_getElem? (i := 419) (by decide +kernel)⟩
theorem lw_p5 : lw_okq (⟨"SwitchDesk", "act", "(I)V"⟩, 9) := ⟨⟨by decide +kernel, by decide +kernel⟩, List.mem_of_getElem? (i := 20) (by decide +kernel), List.mem_of_getElem? (i := 434) (by decide +kernel), List.mem_of_getElem? (i := 435) (by decide +kernel)⟩
theorem lw_p6 : lw_okq (⟨"SwitchDesk$Sheet", "keep", "()V"⟩, 7) := ⟨⟨by decide +kernel, by decide +kernel⟩, List.mem_of_getElem? (i := 155) (by decide +kernel), List.mem_of_getElem? (i := 442) (by decide +kernel), List.mem_of_getElem? (i := 443) (by decide +kernel)⟩
theorem lw_p7 : lw_okq (⟨"SwitchDesk$Finder", "readWritten", "()I"⟩, 7) := ⟨⟨by decide +kernel, by decide +kernel⟩, List.mem_of_getElem? (i := 237) (by decide +kernel), List.mem_of_getElem? (i := 466) (by decide +kernel), List.mem_of_getElem? (i := 467) (by decide +kernel)⟩
theorem lw_p8 : lw_okq (⟨"SwitchDesk$Book", "has", "(I)Z"⟩, 4) := ⟨⟨by decide +kernel, by decide +kernel⟩, List.mem_of_getElem? (i := 218) (by decide +kernel), List.mem_of_getElem? (i := 487) (by decide +kernel), List.mem_of_getElem? (i := 488) (by decide +kernel)⟩
theorem lw_p9 : lw_okq (⟨"SwitchDesk$Finder", "enlist", "(II)V"⟩, 7) := ⟨⟨by decide +kernel, by decide +kernel⟩, List.mem_of_getElem? (i := 237) (by decide +kernel), List.mem_of_getElem? (i := 500) (by decide +kernel), List.mem_of_getElem? (i := 501) (by decide +kernel)⟩
theorem lw_p10 : lw_okq (⟨"SwitchDesk$Finder", "isBetter", "(III)Z"⟩, 7) := ⟨⟨by decide +kernel, by decide +kernel⟩, List.mem_of_getElem? (i := 237) (by decide +kernel), List.mem_of_getElem? (i := 504) (by decide +kernel), List.mem_of_getElem? (i := 505) (by decide +kernel)⟩
theorem lw_p11 : lw_okq (⟨"SwitchDesk$Finder", "slipsOf", "(II)I"⟩, 7) := ⟨⟨by decide +kernel, by decide +kernel⟩, List.mem_of_getElem? (i := 237) (by decide +kernel), List.mem_of_getElem? (i := 532) (by decide +kernel), List.mem_of_getElem? (i := 533) (by decide +kernel)⟩
theorem lw_p12 : lw_okq (⟨"SwitchDesk$Tape", "lettersAlone", "()Z"⟩, 2) := ⟨⟨by decide +kernel, by decide +kernel⟩, List.mem_of_getElem? (i := 204) (by decide +kernel), List.mem_of_getElem? (i := 594) (by decide +kernel), List.mem_of_getElem? (i := 595) (by decide +kernel)⟩
theorem lw_p13 : lw_okq (⟨"SwitchDesk$Book", "add", "(LSwitchDesk$Tape;)I"⟩, 4) := ⟨⟨by decide +kernel, by decide +kernel⟩, List.mem_of_getElem? (i := 218) (by decide +kernel), List.mem_of_getElem? (i := 604) (by decide +kernel), List.mem_of_getElem? (i := 605) (by decide +kernel)⟩
theorem lw_p14 : lw_okq (⟨"SwitchDesk$Shares", "findLeasts", "()V"⟩, 4) := ⟨⟨by decide +kernel, by decide +kernel⟩, List.mem_of_getElem? (i := 265) (by decide +kernel), List.mem_of_getElem? (i := 659) (by decide +kernel), List.mem_of_getElem? (i := 660) (by decide +kernel)⟩
theorem lw_p15 : lw_okq (⟨"SwitchDesk$Plan", "firstEnd", "(II)I"⟩, 5) := ⟨⟨by decide +kernel, by decide +kernel⟩, List.mem_of_getElem? (i := 284) (by decide +kernel), List.mem_of_getElem? (i := 693) (by decide +kernel), List.mem_of_getElem? (i := 694) (by decide +kernel)⟩
def lw_privs_1 : List (MethodName × Nat) := [(⟨"SwitchDesk$Tray", "findLighted", "()V"⟩, 11), (⟨"SwitchDesk$Tray", "standBehind", "(II)V"⟩, 11), (⟨"SwitchDesk$Tray", "join", "(II)V"⟩, 11), (⟨"SwitchDesk", "showTrayAnew", "()V"⟩, 9), (⟨"SwitchDesk$Lamp", "change", "()V"⟩, 10), (⟨"SwitchDesk", "act", "(I)V"⟩, 9), (⟨"SwitchDesk$Sheet", "keep", "()V"⟩, 7), (⟨"SwitchDesk$Finder", "readWritten", "()I"⟩, 7), (⟨"SwitchDesk$Book", "has", "(I)Z"⟩, 4), (⟨"SwitchDesk$Finder", "enlist", "(II)V"⟩, 7), (⟨"SwitchDesk$Finder", "isBetter", "(III)Z"⟩, 7), (⟨"SwitchDesk$Finder", "slipsOf", "(II)I"⟩, 7), (⟨"SwitchDesk$Tape", "lettersAlone", "()Z"⟩, 2), (⟨"SwitchDesk$Book", "add", "(LSwitchDesk$Tape;)I"⟩, 4), (⟨"SwitchDesk$Shares", "findLeasts", "()V"⟩, 4), (⟨"SwitchDesk$Plan", "firstEnd", "(II)I"⟩, 5)]
theorem lw_r1 : ∀ q ∈ lw_privs_1, lw_okq q := List.forall_mem_cons.mpr ⟨lw_p0, List.forall_mem_cons.mpr ⟨lw_p1, List.forall_mem_cons.mpr ⟨lw_p2, List.forall_mem_cons.mpr ⟨lw_p3, List.forall_mem_cons.mpr ⟨lw_p4, List.forall_mem_cons.mpr ⟨lw_p5, List.forall_mem_cons.mpr ⟨lw_p6, List.forall_mem_cons.mpr ⟨lw_p7, List.forall_mem_cons.mpr ⟨lw_p8, List.forall_mem_cons.mpr ⟨lw_p9, List.forall_mem_cons.mpr ⟨lw_p10, List.forall_mem_cons.mpr ⟨lw_p11, List.forall_mem_cons.mpr ⟨lw_p12, List.forall_mem_cons.mpr ⟨lw_p13, List.forall_mem_cons.mpr ⟨lw_p14, List.forall_mem_cons.mpr ⟨lw_p15, fun _ h => absurd h List.not_mem_nil⟩⟩⟩⟩⟩⟩⟩⟩⟩⟩⟩⟩⟩⟩⟩⟩
theorem lw_p16 : lw_okq (⟨"SwitchDesk$Plan", "costWith", "(III)I"⟩, 5) := ⟨⟨by decide +kernel, by decide +kernel⟩, List.mem_of_getElem? (i := 284) (by decide +kernel), List.mem_of_getElem? (i := 697) (by decide +kernel), List.mem_of_getElem? (i := 698) (by decide +kernel)⟩
theorem lw_p17 : lw_okq (⟨"SwitchDesk$Plan", "leastOf", "(II)I"⟩, 5) := ⟨⟨by decide +kernel, by decide +kernel⟩, List.mem_of_getElem? (i := 284) (by decide +kernel), List.mem_of_getElem? (i := 701) (by decide +kernel), List.mem_of_getElem? (i := 702) (by decide +kernel)⟩
theorem lw_p18 : lw_okq (⟨"SwitchDesk$Plan", "sumOf", "(II)I"⟩, 5) := ⟨⟨by decide +kernel, by decide +kernel⟩, List.mem_of_getElem? (i := 284) (by decide +kernel), List.mem_of_getElem? (i := 709) (by decide +kernel), List.mem_of_getElem? (i := 710) (by decide +kernel)⟩
theorem lw_p19 : lw_okq (⟨"SwitchDesk$Plan", "openAt", "(IILSwitchDesk$Tray;)I"⟩, 5) := ⟨⟨by decide +kernel, by decide +kernel⟩, List.mem_of_getElem? (i := 284) (by decide +kernel), List.mem_of_getElem? (i := 717) (by decide +kernel), List.mem_of_getElem? (i := 718) (by decide +kernel)⟩
theorem lw_p20 : lw_okq (⟨"java/lang/Throwable", "fillInStackTrace", "(I)Ljava/lang/Throwable;"⟩, 6) := ⟨⟨by decide +kernel, by decide +kernel⟩, List.mem_of_getElem? (i := 780) (by decide +kernel), List.mem_of_getElem? (i := 778) (by decide +kernel), List.mem_of_getElem? (i := 779) (by decide +kernel)⟩
theorem lw_p21 : lw_okq (⟨"SwitchDeskModel", "looks", "()V"⟩, 38) := ⟨⟨by decide +kernel, by decide +kernel⟩, List.mem_of_getElem? (i := 819) (by decide +kernel), List.mem_of_getElem? (i := 825) (by decide +kernel), List.mem_of_getElem? (i := 826) (by decide +kernel)⟩
theorem lw_p22 : lw_okq (⟨"SwitchDeskModel", "isNode", "(I)Z"⟩, 38) := ⟨⟨by decide +kernel, by decide +kernel⟩, List.mem_of_getElem? (i := 819) (by decide +kernel), List.mem_of_getElem? (i := 954) (by decide +kernel), List.mem_of_getElem? (i := 955) (by decide +kernel)⟩
theorem lw_p23 : lw_okq (⟨"SwitchDeskModel", "adds", "(III)I"⟩, 38) := ⟨⟨by decide +kernel, by decide +kernel⟩, List.mem_of_getElem? (i := 819) (by decide +kernel), List.mem_of_getElem? (i := 964) (by decide +kernel), List.mem_of_getElem? (i := 965) (by decide +kernel)⟩
theorem lw_p24 : lw_okq (⟨"SwitchDeskModel", "comes", "(I)V"⟩, 38) := ⟨⟨by decide +kernel, by decide +kernel⟩, List.mem_of_getElem? (i := 819) (by decide +kernel), List.mem_of_getElem? (i := 968) (by decide +kernel), List.mem_of_getElem? (i := 969) (by decide +kernel)⟩
theorem lw_p25 : lw_okq (⟨"SwitchDeskModel", "placeOf", "(I)I"⟩, 38) := ⟨⟨by decide +kernel, by decide +kernel⟩, List.mem_of_getElem? (i := 819) (by decide +kernel), List.mem_of_getElem? (i := 980) (by decide +kernel), List.mem_of_getElem? (i := 981) (by decide +kernel)⟩
theorem lw_p26 : lw_okq (⟨"SwitchDeskModel", "lights", "(I)I"⟩, 38) := ⟨⟨by decide +kernel, by decide +kernel⟩, List.mem_of_getElem? (i := 819) (by decide +kernel), List.mem_of_getElem? (i := 984) (by decide +kernel), List.mem_of_getElem? (i := 985) (by decide +kernel)⟩
theorem lw_p27 : lw_okq (⟨"SwitchDeskModel", "ticks", "()V"⟩, 38) := ⟨⟨by decide +kernel, by decide +kernel⟩, List.mem_of_getElem? (i := 819) (by decide +kernel), List.mem_of_getElem? (i := 997) (by decide +kernel), List.mem_of_getElem? (i := 998) (by decide +kernel)⟩
theorem lw_p28 : lw_okq (⟨"SwitchDeskModel", "light", "(II)I"⟩, 38) := ⟨⟨by decide +kernel, by decide +kernel⟩, List.mem_of_getElem? (i := 819) (by decide +kernel), List.mem_of_getElem? (i := 1001) (by decide +kernel), List.mem_of_getElem? (i := 1002) (by decide +kernel)⟩
theorem lw_p29 : lw_okq (⟨"SwitchDeskModel", "acts", "(I)V"⟩, 38) := ⟨⟨by decide +kernel, by decide +kernel⟩, List.mem_of_getElem? (i := 819) (by decide +kernel), List.mem_of_getElem? (i := 1009) (by decide +kernel), List.mem_of_getElem? (i := 1010) (by decide +kernel)⟩
theorem lw_p30 : lw_okq (⟨"SwitchDeskModel", "keep", "()V"⟩, 38) := ⟨⟨by decide +kernel, by decide +kernel⟩, List.mem_of_getElem? (i := 819) (by decide +kernel), List.mem_of_getElem? (i := 1013) (by decide +kernel), List.mem_of_getElem? (i := 1014) (by decide +kernel)⟩
theorem lw_p31 : lw_okq (⟨"SwitchDeskModel", "put", "(I)V"⟩, 38) := ⟨⟨by decide +kernel, by decide +kernel⟩, List.mem_of_getElem? (i := 819) (by decide +kernel), List.mem_of_getElem? (i := 1017) (by decide +kernel), List.mem_of_getElem? (i := 1018) (by decide +kernel)⟩
def lw_privs_2 : List (MethodName × Nat) := [(⟨"SwitchDesk$Plan", "costWith", "(III)I"⟩, 5), (⟨"SwitchDesk$Plan", "leastOf", "(II)I"⟩, 5), (⟨"SwitchDesk$Plan", "sumOf", "(II)I"⟩, 5), (⟨"SwitchDesk$Plan", "openAt", "(IILSwitchDesk$Tray;)I"⟩, 5), (⟨"java/lang/Throwable", "fillInStackTrace", "(I)Ljava/lang/Throwable;"⟩, 6), (⟨"SwitchDeskModel", "looks", "()V"⟩, 38), (⟨"SwitchDeskModel", "isNode", "(I)Z"⟩, 38), (⟨"SwitchDeskModel", "adds", "(III)I"⟩, 38), (⟨"SwitchDeskModel", "comes", "(I)V"⟩, 38), (⟨"SwitchDeskModel", "placeOf", "(I)I"⟩, 38), (⟨"SwitchDeskModel", "lights", "(I)I"⟩, 38), (⟨"SwitchDeskModel", "ticks", "()V"⟩, 38), (⟨"SwitchDeskModel", "light", "(II)I"⟩, 38), (⟨"SwitchDeskModel", "acts", "(I)V"⟩, 38), (⟨"SwitchDeskModel", "keep", "()V"⟩, 38), (⟨"SwitchDeskModel", "put", "(I)V"⟩, 38)]
theorem lw_r2 : ∀ q ∈ lw_privs_2, lw_okq q := List.forall_mem_cons.mpr ⟨lw_p16, List.forall_mem_cons.mpr ⟨lw_p17, List.forall_mem_cons.mpr ⟨lw_p18, List.forall_mem_cons.mpr ⟨lw_p19, List.forall_mem_cons.mpr ⟨lw_p20, List.forall_mem_cons.mpr ⟨lw_p21, List.forall_mem_cons.mpr ⟨lw_p22, List.forall_mem_cons.mpr ⟨lw_p23, List.forall_mem_cons.mpr ⟨lw_p24, List.forall_mem_cons.mpr ⟨lw_p25, List.forall_mem_cons.mpr ⟨lw_p26, List.forall_mem_cons.mpr ⟨lw_p27, List.forall_mem_cons.mpr ⟨lw_p28, List.forall_mem_cons.mpr ⟨lw_p29, List.forall_mem_cons.mpr ⟨lw_p30, List.forall_mem_cons.mpr ⟨lw_p31, fun _ h => absurd h List.not_mem_nil⟩⟩⟩⟩⟩⟩⟩⟩⟩⟩⟩⟩⟩⟩⟩⟩
theorem lw_p32 : lw_okq (⟨"SwitchDeskModel", "undo", "()V"⟩, 38) := ⟨⟨by decide +kernel, by decide +kernel⟩, List.mem_of_getElem? (i := 819) (by decide +kernel), List.mem_of_getElem? (i := 1021) (by decide +kernel), List.mem_of_getElem? (i := 1022) (by decide +kernel)⟩
theorem lw_p33 : lw_okq (⟨"SwitchDeskModel", "foreseenAt", "(I)I"⟩, 38) := ⟨⟨by decide +kernel, by decide +kernel⟩, List.mem_of_getElem? (i := 819) (by decide +kernel), List.mem_of_getElem? (i := 1025) (by decide +kernel), List.mem_of_getElem? (i := 1026) (by decide +kernel)⟩
theorem lw_p34 : lw_okq (⟨"SwitchDeskModel", "written", "()I"⟩, 38) := ⟨⟨by decide +kernel, by decide +kernel⟩, List.mem_of_getElem? (i := 819) (by decide +kernel), List.mem_of_getElem? (i := 1029) (by decide +kernel), List.mem_of_getElem? (i := 1030) (by decide +kernel)⟩
theorem lw_p35 : lw_okq (⟨"SwitchDeskModel", "ranked", "(I)I"⟩, 38) := ⟨⟨by decide +kernel, by decide +kernel⟩, List.mem_of_getElem? (i := 819) (by decide +kernel), List.mem_of_getElem? (i := 1033) (by decide +kernel), List.mem_of_getElem? (i := 1034) (by decide +kernel)⟩
theorem lw_p36 : lw_okq (⟨"SwitchDeskModel", "offeredAt", "(I)I"⟩, 38) := ⟨⟨by decide +kernel, by decide +kernel⟩, List.mem_of_getElem? (i := 819) (by decide +kernel), List.mem_of_getElem? (i := 1037) (by decide +kernel), List.mem_of_getElem? (i := 1038) (by decide +kernel)⟩
theorem lw_p37 : lw_okq (⟨"SwitchDeskModel", "areNear", "(II)Z"⟩, 38) := ⟨⟨by decide +kernel, by decide +kernel⟩, List.mem_of_getElem? (i := 819) (by decide +kernel), List.mem_of_getElem? (i := 1041) (by decide +kernel), List.mem_of_getElem? (i := 1042) (by decide +kernel)⟩
theorem lw_p38 : lw_okq (⟨"SwitchDeskModel", "isRow", "()Z"⟩, 38) := ⟨⟨by decide +kernel, by decide +kernel⟩, List.mem_of_getElem? (i := 819) (by decide +kernel), List.mem_of_getElem? (i := 1072) (by decide +kernel), List.mem_of_getElem? (i := 1073) (by decide +kernel)⟩
theorem lw_p39 : lw_okq (⟨"SwitchDeskModel", "isWord", "(I)Z"⟩, 38) := ⟨⟨by decide +kernel, by decide +kernel⟩, List.mem_of_getElem? (i := 819) (by decide +kernel), List.mem_of_getElem? (i := 1076) (by decide +kernel), List.mem_of_getElem? (i := 1077) (by decide +kernel)⟩
theorem lw_p40 : lw_okq (⟨"SwitchDeskModel", "hasKey", "(I)Z"⟩, 38) := ⟨⟨by decide +kernel, by decide +kernel⟩, List.mem_of_getElem? (i := 819) (by decide +kernel), List.mem_of_getElem? (i := 1104) (by decide +kernel), List.mem_of_getElem? (i := 1105) (by decide +kernel)⟩
theorem lw_p41 : lw_okq (⟨"SwitchDeskModel", "costOf", "(I)I"⟩, 38) := ⟨⟨by decide +kernel, by decide +kernel⟩, List.mem_of_getElem? (i := 819) (by decide +kernel), List.mem_of_getElem? (i := 1108) (by decide +kernel), List.mem_of_getElem? (i := 1109) (by decide +kernel)⟩
theorem lw_p42 : lw_okq (⟨"SwitchDeskModel", "sums", "(I)V"⟩, 38) := ⟨⟨by decide +kernel, by decide +kernel⟩, List.mem_of_getElem? (i := 819) (by decide +kernel), List.mem_of_getElem? (i := 1121) (by decide +kernel), List.mem_of_getElem? (i := 1122) (by decide +kernel)⟩
theorem lw_p43 : lw_okq (⟨"SwitchDeskModel", "item", "(III)J"⟩, 38) := ⟨⟨by decide +kernel, by decide +kernel⟩, List.mem_of_getElem? (i := 819) (by decide +kernel), List.mem_of_getElem? (i := 1126) (by decide +kernel), List.mem_of_getElem? (i := 1127) (by decide +kernel)⟩
theorem lw_p44 : lw_okq (⟨"SwitchDeskModel", "weight", "(II)J"⟩, 38) := ⟨⟨by decide +kernel, by decide +kernel⟩, List.mem_of_getElem? (i := 819) (by decide +kernel), List.mem_of_getElem? (i := 1130) (by decide +kernel), List.mem_of_getElem? (i := 1131) (by decide +kernel)⟩
theorem lw_p45 : lw_okq (⟨"SwitchDeskModel", "lays", "(IIIIZ)V"⟩, 38) := ⟨⟨by decide +kernel, by decide +kernel⟩, List.mem_of_getElem? (i := 819) (by decide +kernel), List.mem_of_getElem? (i := 1141) (by decide +kernel), List.mem_of_getElem? (i := 1142) (by decide +kernel)⟩
def lw_privs_3 : List (MethodName × Nat) := [(⟨"SwitchDeskModel", "undo", "()V"⟩, 38), (⟨"SwitchDeskModel", "foreseenAt", "(I)I"⟩, 38), (⟨"SwitchDeskModel", "written", "()I"⟩, 38), (⟨"SwitchDeskModel", "ranked", "(I)I"⟩, 38), (⟨"SwitchDeskModel", "offeredAt", "(I)I"⟩, 38), (⟨"SwitchDeskModel", "areNear", "(II)Z"⟩, 38), (⟨"SwitchDeskModel", "isRow", "()Z"⟩, 38), (⟨"SwitchDeskModel", "isWord", "(I)Z"⟩, 38), (⟨"SwitchDeskModel", "hasKey", "(I)Z"⟩, 38), (⟨"SwitchDeskModel", "costOf", "(I)I"⟩, 38), (⟨"SwitchDeskModel", "sums", "(I)V"⟩, 38), (⟨"SwitchDeskModel", "item", "(III)J"⟩, 38), (⟨"SwitchDeskModel", "weight", "(II)J"⟩, 38), (⟨"SwitchDeskModel", "lays", "(IIIIZ)V"⟩, 38)]
theorem lw_r3 : ∀ q ∈ lw_privs_3, lw_okq q := List.forall_mem_cons.mpr ⟨lw_p32, List.forall_mem_cons.mpr ⟨lw_p33, List.forall_mem_cons.mpr ⟨lw_p34, List.forall_mem_cons.mpr ⟨lw_p35, List.forall_mem_cons.mpr ⟨lw_p36, List.forall_mem_cons.mpr ⟨lw_p37, List.forall_mem_cons.mpr ⟨lw_p38, List.forall_mem_cons.mpr ⟨lw_p39, List.forall_mem_cons.mpr ⟨lw_p40, List.forall_mem_cons.mpr ⟨lw_p41, List.forall_mem_cons.mpr ⟨lw_p42, List.forall_mem_cons.mpr ⟨lw_p43, List.forall_mem_cons.mpr ⟨lw_p44, List.forall_mem_cons.mpr ⟨lw_p45, fun _ h => absurd h List.not_mem_nil⟩⟩⟩⟩⟩⟩⟩⟩⟩⟩⟩⟩⟩⟩
def lw_privs : List (MethodName × Nat) := lw_privs_1 ++ (lw_privs_2 ++ (lw_privs_3))
def lw_tbl : List Cond := k2_sels lw_privs ++ tables_1
theorem lw_privs_ok : ∀ q ∈ lw_privs, lw_okq q := by
  show ∀ q ∈ lw_privs_1 ++ (lw_privs_2 ++ (lw_privs_3)), lw_okq q
  exact List.forall_mem_append.mpr ⟨lw_r1, List.forall_mem_append.mpr ⟨lw_r2, lw_r3⟩⟩
def RX0 : String := "SwitchDesk$Book"
def TX0 : u_T := fun k => match k with
  | 0 => ("SwitchDesk$Book", "signs", "[I", true)
  | 1 => ("SwitchDesk$Book", "sizes", "[I", true)
  | 2 => ("SwitchDesk$Book", "counts", "[I", true)
  | _ => ("SwitchDesk$Book", "size", "I", false)
def tyX0 : Nat → FieldType := fun k => match k with
  | 0 => .array .int
  | 1 => .array .int
  | 2 => .array .int
  | _ => .int
abbrev wsX00 : List Cond := u_ws RX0 TX0 4
theorem nmX0 : ∀ a, a < 4 → ∀ b, b < 4 → a ≠ b → (TX0 a).2.1 ≠ (TX0 b).2.1 := by decide +kernel
theorem tyX0_ok : ∀ k, k < 4 → parseFieldDescriptor (TX0 k).2.2.1 = some (tyX0 k) := by decide +kernel
abbrev cX0_init : ByteArray := prog_2_method_1_code
def yX0_init : MethodName := ⟨RX0, "<init>", "()V"⟩
abbrev cX0_take : ByteArray := prog_2_method_2_code
def yX0_take : MethodName := ⟨RX0, "take", "(LSwitchDesk$Tape;I)I"⟩
abbrev cX0_add : ByteArray := prog_2_method_3_code
def yX0_add : MethodName := ⟨RX0, "add", "(LSwitchDesk$Tape;)I"⟩
abbrev cX0_find : ByteArray := prog_2_method_4_code
def yX0_find : MethodName := ⟨RX0, "find", "([II)I"⟩
abbrev cX0_beginsWith : ByteArray := prog_2_method_5_code
def yX0_beginsWith : MethodName := ⟨RX0, "beginsWith", "(I[II)Z"⟩
abbrev cX0_has : ByteArray := prog_2_method_6_code
def yX0_has : MethodName := ⟨RX0, "has", "(I)Z"⟩
abbrev cX0_size : ByteArray := prog_2_method_7_code
def yX0_size : MethodName := ⟨RX0, "size", "()I"⟩
abbrev cX0_sizeOf : ByteArray := prog_2_method_8_code
def yX0_sizeOf : MethodName := ⟨RX0, "sizeOf", "(I)I"⟩
abbrev cX0_timesOf : ByteArray := prog_2_method_9_code
def yX0_timesOf : MethodName := ⟨RX0, "timesOf", "(I)I"⟩
abbrev cX0_signOf : ByteArray := prog_2_method_10_code
def yX0_signOf : MethodName := ⟨RX0, "signOf", "(II)I"⟩
def RX1 : String := "SwitchDesk$Chain"
def TX1 : u_T := fun k => match k with
  | 0 => ("SwitchDesk$Chain", "before", "LSwitchDesk$Chain;", true)
  | 1 => ("SwitchDesk$Chain", "sign", "I", true)
  | _ => ("SwitchDesk$Chain", "size", "I", true)
def tyX1 : Nat → FieldType := fun k => match k with
  | 0 => .object "SwitchDesk$Chain"
  | 1 => .int
  | _ => .int
abbrev wsX10 : List Cond := u_ws RX1 TX1 3
theorem nmX1 : ∀ a, a < 3 → ∀ b, b < 3 → a ≠ b → (TX1 a).2.1 ≠ (TX1 b).2.1 := by decide +kernel
theorem tyX1_ok : ∀ k, k < 3 → parseFieldDescriptor (TX1 k).2.2.1 = some (tyX1 k) := by decide +kernel
abbrev cX1_init : ByteArray := prog_3_method_1_code
def yX1_init : MethodName := ⟨RX1, "<init>", "(LSwitchDesk$Chain;I)V"⟩
abbrev cX1_without : ByteArray := prog_3_method_2_code
def yX1_without : MethodName := ⟨RX1, "without", "(I)LSwitchDesk$Chain;"⟩
abbrev cX1_signAt : ByteArray := prog_3_method_3_code
def yX1_signAt : MethodName := ⟨RX1, "signAt", "(I)I"⟩
def RX2 : String := "SwitchDesk$Finder"
def TX2 : u_T := fun k => match k with
  | 0 => ("SwitchDesk$Finder", "book", "LSwitchDesk$Book;", true)
  | 1 => ("SwitchDesk$Finder", "tray", "LSwitchDesk$Tray;", true)
  | 2 => ("SwitchDesk$Finder", "sheet", "LSwitchDesk$Sheet;", true)
  | 3 => ("SwitchDesk$Finder", "written", "[I", true)
  | 4 => ("SwitchDesk$Finder", "words", "[I", true)
  | 5 => ("SwitchDesk$Finder", "slips", "[I", true)
  | _ => ("SwitchDesk$Finder", "found", "I", false)
def tyX2 : Nat → FieldType := fun k => match k with
  | 0 => .object "SwitchDesk$Book"
  | 1 => .object "SwitchDesk$Tray"
  | 2 => .object "SwitchDesk$Sheet"
  | 3 => .array .int
  | 4 => .array .int
  | 5 => .array .int
  | _ => .int
abbrev wsX20 : List Cond := u_ws RX2 TX2 7
theorem nmX2 : ∀ a, a < 7 → ∀ b, b < 7 → a ≠ b → (TX2 a).2.1 ≠ (TX2 b).2.1 := by decide +kernel
theorem tyX2_ok : ∀ k, k < 7 → parseFieldDescriptor (TX2 k).2.2.1 = some (tyX2 k) := by decide +kernel
abbrev cX2_init : ByteArray := prog_4_method_1_code
def yX2_init : MethodName := ⟨RX2, "<init>", "(LSwitchDesk$Book;LSwitchDesk$Tray;LSwitchDesk$Sheet;)V"⟩
abbrev cX2_seekForeseen : ByteArray := prog_4_method_2_code
def yX2_seekForeseen : MethodName := ⟨RX2, "seekForeseen", "()V"⟩
abbrev cX2_seekOffered : ByteArray := prog_4_method_3_code
def yX2_seekOffered : MethodName := ⟨RX2, "seekOffered", "()V"⟩
abbrev cX2_readWritten : ByteArray := prog_4_method_4_code
def yX2_readWritten : MethodName := ⟨RX2, "readWritten", "()I"⟩
abbrev cX2_slipsOf : ByteArray := prog_4_method_5_code
def yX2_slipsOf : MethodName := ⟨RX2, "slipsOf", "(II)I"⟩
abbrev cX2_enlist : ByteArray := prog_4_method_6_code
def yX2_enlist : MethodName := ⟨RX2, "enlist", "(II)V"⟩
abbrev cX2_isBetter : ByteArray := prog_4_method_7_code
def yX2_isBetter : MethodName := ⟨RX2, "isBetter", "(III)Z"⟩
abbrev cX2_found : ByteArray := prog_4_method_8_code
def yX2_found : MethodName := ⟨RX2, "found", "()I"⟩
abbrev cX2_foundAt : ByteArray := prog_4_method_9_code
def yX2_foundAt : MethodName := ⟨RX2, "foundAt", "(I)I"⟩
def RX3 : String := "SwitchDesk$Lamp"
def TX3 : u_T := fun k => match k with
  | 0 => ("SwitchDesk$Lamp", "tray", "LSwitchDesk$Tray;", true)
  | 1 => ("SwitchDesk$Lamp", "numbers", "LSwitchDesk$Numbers;", true)
  | 2 => ("SwitchDesk$Lamp", "now", "I", false)
  | 3 => ("SwitchDesk$Lamp", "group", "I", false)
  | 4 => ("SwitchDesk$Lamp", "lit", "I", false)
  | 5 => ("SwitchDesk$Lamp", "before", "I", false)
  | 6 => ("SwitchDesk$Lamp", "changed", "I", false)
  | 7 => ("SwitchDesk$Lamp", "rounds", "I", false)
  | 8 => ("SwitchDesk$Lamp", "presses", "I", false)
  | _ => ("SwitchDesk$Lamp", "lastPress", "I", false)
def tyX3 : Nat → FieldType := fun k => match k with
  | 0 => .object "SwitchDesk$Tray"
  | 1 => .object "SwitchDesk$Numbers"
  | 2 => .int
  | 3 => .int
  | 4 => .int
  | 5 => .int
  | 6 => .int
  | 7 => .int
  | 8 => .int
  | _ => .int
abbrev wsX30 : List Cond := u_ws RX3 TX3 10
theorem nmX3 : ∀ a, a < 10 → ∀ b, b < 10 → a ≠ b → (TX3 a).2.1 ≠ (TX3 b).2.1 := by decide +kernel
theorem tyX3_ok : ∀ k, k < 10 → parseFieldDescriptor (TX3 k).2.2.1 = some (tyX3 k) := by decide +kernel
abbrev cX3_init : ByteArray := prog_5_method_1_code
def yX3_init : MethodName := ⟨RX3, "<init>", "(LSwitchDesk$Tray;LSwitchDesk$Numbers;)V"⟩
abbrev cX3_comeTo : ByteArray := prog_5_method_2_code
def yX3_comeTo : MethodName := ⟨RX3, "comeTo", "(I)V"⟩
abbrev cX3_pass : ByteArray := prog_5_method_3_code
def yX3_pass : MethodName := ⟨RX3, "pass", "(I)I"⟩
abbrev cX3_change : ByteArray := prog_5_method_4_code
def yX3_change : MethodName := ⟨RX3, "change", "()V"⟩
abbrev cX3_take : ByteArray := prog_5_method_5_code
def yX3_take : MethodName := ⟨RX3, "take", "()I"⟩
abbrev cX3_tell : ByteArray := prog_5_method_6_code
def yX3_tell : MethodName := ⟨RX3, "tell", "(I)I"⟩
def RX4 : String := "SwitchDesk$Numbers"
def TX4 : u_T := fun k => match k with
  | _ => ("SwitchDesk$Numbers", "values", "[I", true)
def tyX4 : Nat → FieldType := fun k => match k with
  | _ => .array .int
abbrev wsX40 : List Cond := u_ws RX4 TX4 1
theorem nmX4 : ∀ a, a < 1 → ∀ b, b < 1 → a ≠ b → (TX4 a).2.1 ≠ (TX4 b).2.1 := by decide +kernel
theorem tyX4_ok : ∀ k, k < 1 → parseFieldDescriptor (TX4 k).2.2.1 = some (tyX4 k) := by decide +kernel
abbrev cX4_init : ByteArray := prog_6_method_1_code
def yX4_init : MethodName := ⟨RX4, "<init>", "()V"⟩
abbrev cX4_change : ByteArray := prog_6_method_2_code
def yX4_change : MethodName := ⟨RX4, "change", "(II)Z"⟩
abbrev cX4_get : ByteArray := prog_6_method_3_code
def yX4_get : MethodName := ⟨RX4, "get", "(I)I"⟩
def RX5 : String := "SwitchDesk$Plan"
def TX5 : u_T := fun k => match k with
  | 0 => ("SwitchDesk$Plan", "tape", "LSwitchDesk$Tape;", true)
  | 1 => ("SwitchDesk$Plan", "numbers", "LSwitchDesk$Numbers;", true)
  | 2 => ("SwitchDesk$Plan", "sums", "[I", true)
  | 3 => ("SwitchDesk$Plan", "leasts", "[I", true)
  | _ => ("SwitchDesk$Plan", "ends", "[I", true)
def tyX5 : Nat → FieldType := fun k => match k with
  | 0 => .object "SwitchDesk$Tape"
  | 1 => .object "SwitchDesk$Numbers"
  | 2 => .array .int
  | 3 => .array .int
  | _ => .array .int
abbrev wsX50 : List Cond := u_ws RX5 TX5 5
theorem nmX5 : ∀ a, a < 5 → ∀ b, b < 5 → a ≠ b → (TX5 a).2.1 ≠ (TX5 b).2.1 := by decide +kernel
theorem tyX5_ok : ∀ k, k < 5 → parseFieldDescriptor (TX5 k).2.2.1 = some (tyX5 k) := by decide +kernel
abbrev cX5_init : ByteArray := prog_7_method_1_code
def yX5_init : MethodName := ⟨RX5, "<init>", "(LSwitchDesk$Tape;LSwitchDesk$Numbers;)V"⟩
abbrev cX5_solve : ByteArray := prog_7_method_2_code
def yX5_solve : MethodName := ⟨RX5, "solve", "(LSwitchDesk$Shares;)I"⟩
abbrev cX5_firstEnd : ByteArray := prog_7_method_3_code
def yX5_firstEnd : MethodName := ⟨RX5, "firstEnd", "(II)I"⟩
abbrev cX5_costWith : ByteArray := prog_7_method_4_code
def yX5_costWith : MethodName := ⟨RX5, "costWith", "(III)I"⟩
abbrev cX5_sumOf : ByteArray := prog_7_method_5_code
def yX5_sumOf : MethodName := ⟨RX5, "sumOf", "(II)I"⟩
abbrev cX5_leastOf : ByteArray := prog_7_method_6_code
def yX5_leastOf : MethodName := ⟨RX5, "leastOf", "(II)I"⟩
abbrev cX5_isPart : ByteArray := prog_7_method_7_code
def yX5_isPart : MethodName := ⟨RX5, "isPart", "(II)Z"⟩
abbrev cX5_build : ByteArray := prog_7_method_8_code
def yX5_build : MethodName := ⟨RX5, "build", "(LSwitchDesk$Tray;)V"⟩
abbrev cX5_openAt : ByteArray := prog_7_method_9_code
def yX5_openAt : MethodName := ⟨RX5, "openAt", "(IILSwitchDesk$Tray;)I"⟩
def RX6 : String := "SwitchDesk$Shares"
def TX6 : u_T := fun k => match k with
  | 0 => ("SwitchDesk$Shares", "tray", "LSwitchDesk$Tray;", true)
  | 1 => ("SwitchDesk$Shares", "numbers", "LSwitchDesk$Numbers;", true)
  | 2 => ("SwitchDesk$Shares", "shares", "[I", true)
  | _ => ("SwitchDesk$Shares", "leasts", "[I", true)
def tyX6 : Nat → FieldType := fun k => match k with
  | 0 => .object "SwitchDesk$Tray"
  | 1 => .object "SwitchDesk$Numbers"
  | 2 => .array .int
  | _ => .array .int
abbrev wsX60 : List Cond := u_ws RX6 TX6 4
theorem nmX6 : ∀ a, a < 4 → ∀ b, b < 4 → a ≠ b → (TX6 a).2.1 ≠ (TX6 b).2.1 := by decide +kernel
theorem tyX6_ok : ∀ k, k < 4 → parseFieldDescriptor (TX6 k).2.2.1 = some (tyX6 k) := by decide +kernel
abbrev cX6_init : ByteArray := prog_8_method_1_code
def yX6_init : MethodName := ⟨RX6, "<init>", "(LSwitchDesk$Tray;LSwitchDesk$Numbers;)V"⟩
abbrev cX6_change : ByteArray := prog_8_method_2_code
def yX6_change : MethodName := ⟨RX6, "change", "(II)Z"⟩
abbrev cX6_shareOf : ByteArray := prog_8_method_3_code
def yX6_shareOf : MethodName := ⟨RX6, "shareOf", "(I)I"⟩
abbrev cX6_costOf : ByteArray := prog_8_method_4_code
def yX6_costOf : MethodName := ⟨RX6, "costOf", "(I)I"⟩
abbrev cX6_meanPart : ByteArray := prog_8_method_5_code
def yX6_meanPart : MethodName := ⟨RX6, "meanPart", "(I)J"⟩
abbrev cX6_findLeasts : ByteArray := prog_8_method_6_code
def yX6_findLeasts : MethodName := ⟨RX6, "findLeasts", "()V"⟩
abbrev cX6_commonDivisor : ByteArray := prog_8_method_7_code
def yX6_commonDivisor : MethodName := ⟨RX6, "commonDivisor", "(JJ)J"⟩
def RX7 : String := "SwitchDesk$Sheet"
def TX7 : u_T := fun k => match k with
  | 0 => ("SwitchDesk$Sheet", "empty", "LSwitchDesk$Chain;", true)
  | 1 => ("SwitchDesk$Sheet", "oldTexts", "[LSwitchDesk$Chain;", true)
  | 2 => ("SwitchDesk$Sheet", "oldSaids", "[LSwitchDesk$Chain;", true)
  | 3 => ("SwitchDesk$Sheet", "oldest", "I", false)
  | 4 => ("SwitchDesk$Sheet", "kept", "I", false)
  | 5 => ("SwitchDesk$Sheet", "text", "LSwitchDesk$Chain;", false)
  | _ => ("SwitchDesk$Sheet", "said", "LSwitchDesk$Chain;", false)
def tyX7 : Nat → FieldType := fun k => match k with
  | 0 => .object "SwitchDesk$Chain"
  | 1 => .array (.object "SwitchDesk$Chain")
  | 2 => .array (.object "SwitchDesk$Chain")
  | 3 => .int
  | 4 => .int
  | 5 => .object "SwitchDesk$Chain"
  | _ => .object "SwitchDesk$Chain"
abbrev wsX70 : List Cond := u_ws RX7 TX7 7
theorem nmX7 : ∀ a, a < 7 → ∀ b, b < 7 → a ≠ b → (TX7 a).2.1 ≠ (TX7 b).2.1 := by decide +kernel
theorem tyX7_ok : ∀ k, k < 7 → parseFieldDescriptor (TX7 k).2.2.1 = some (tyX7 k) := by decide +kernel
abbrev cX7_init : ByteArray := prog_9_method_1_code
def yX7_init : MethodName := ⟨RX7, "<init>", "()V"⟩
abbrev cX7_part : ByteArray := prog_9_method_2_code
def yX7_part : MethodName := ⟨RX7, "part", "(I)LSwitchDesk$Chain;"⟩
abbrev cX7_undoable : ByteArray := prog_9_method_3_code
def yX7_undoable : MethodName := ⟨RX7, "undoable", "()I"⟩
abbrev cX7_written : ByteArray := prog_9_method_4_code
def yX7_written : MethodName := ⟨RX7, "written", "()I"⟩
abbrev cX7_copyLast : ByteArray := prog_9_method_5_code
def yX7_copyLast : MethodName := ⟨RX7, "copyLast", "(I[I)V"⟩
abbrev cX7_write : ByteArray := prog_9_method_6_code
def yX7_write : MethodName := ⟨RX7, "write", "(I)V"⟩
abbrev cX7_dropLast : ByteArray := prog_9_method_7_code
def yX7_dropLast : MethodName := ⟨RX7, "dropLast", "()V"⟩
abbrev cX7_speak : ByteArray := prog_9_method_8_code
def yX7_speak : MethodName := ⟨RX7, "speak", "()V"⟩
abbrev cX7_complete : ByteArray := prog_9_method_9_code
def yX7_complete : MethodName := ⟨RX7, "complete", "(LSwitchDesk$Book;IZ)V"⟩
abbrev cX7_takeBack : ByteArray := prog_9_method_10_code
def yX7_takeBack : MethodName := ⟨RX7, "takeBack", "()V"⟩
abbrev cX7_keep : ByteArray := prog_9_method_11_code
def yX7_keep : MethodName := ⟨RX7, "keep", "()V"⟩
def RX8 : String := "SwitchDesk$Tape"
def TX8 : u_T := fun k => match k with
  | 0 => ("SwitchDesk$Tape", "signs", "[I", true)
  | _ => ("SwitchDesk$Tape", "size", "I", false)
def tyX8 : Nat → FieldType := fun k => match k with
  | 0 => .array .int
  | _ => .int
abbrev wsX80 : List Cond := u_ws RX8 TX8 2
theorem nmX8 : ∀ a, a < 2 → ∀ b, b < 2 → a ≠ b → (TX8 a).2.1 ≠ (TX8 b).2.1 := by decide +kernel
theorem tyX8_ok : ∀ k, k < 2 → parseFieldDescriptor (TX8 k).2.2.1 = some (tyX8 k) := by decide +kernel
abbrev cX8_init : ByteArray := prog_10_method_1_code
def yX8_init : MethodName := ⟨RX8, "<init>", "()V"⟩
abbrev cX8_take : ByteArray := prog_10_method_2_code
def yX8_take : MethodName := ⟨RX8, "take", "(II)I"⟩
abbrev cX8_fedByte : ByteArray := prog_10_method_3_code
def yX8_fedByte : MethodName := ⟨RX8, "fedByte", "(III)I"⟩
abbrev cX8_cut : ByteArray := prog_10_method_4_code
def yX8_cut : MethodName := ⟨RX8, "cut", "(I)Z"⟩
abbrev cX8_size : ByteArray := prog_10_method_5_code
def yX8_size : MethodName := ⟨RX8, "size", "()I"⟩
abbrev cX8_signAt : ByteArray := prog_10_method_6_code
def yX8_signAt : MethodName := ⟨RX8, "signAt", "(I)I"⟩
abbrev cX8_isWord : ByteArray := prog_10_method_7_code
def yX8_isWord : MethodName := ⟨RX8, "isWord", "()Z"⟩
abbrev cX8_isRow : ByteArray := prog_10_method_8_code
def yX8_isRow : MethodName := ⟨RX8, "isRow", "()Z"⟩
abbrev cX8_lettersAlone : ByteArray := prog_10_method_9_code
def yX8_lettersAlone : MethodName := ⟨RX8, "lettersAlone", "()Z"⟩
def RX9 : String := "SwitchDesk$Tray"
def TX9 : u_T := fun k => match k with
  | 0 => ("SwitchDesk$Tray", "kinds", "[I", true)
  | 1 => ("SwitchDesk$Tray", "values", "[I", true)
  | 2 => ("SwitchDesk$Tray", "groups", "[I", true)
  | 3 => ("SwitchDesk$Tray", "places", "[I", true)
  | 4 => ("SwitchDesk$Tray", "lights", "[I", true)
  | 5 => ("SwitchDesk$Tray", "firsts", "[I", true)
  | 6 => ("SwitchDesk$Tray", "lasts", "[I", true)
  | 7 => ("SwitchDesk$Tray", "nexts", "[I", true)
  | 8 => ("SwitchDesk$Tray", "lighted", "[Z", true)
  | 9 => ("SwitchDesk$Tray", "neighbours", "[I", true)
  | _ => ("SwitchDesk$Tray", "size", "I", false)
def tyX9 : Nat → FieldType := fun k => match k with
  | 0 => .array .int
  | 1 => .array .int
  | 2 => .array .int
  | 3 => .array .int
  | 4 => .array .int
  | 5 => .array .int
  | 6 => .array .int
  | 7 => .array .int
  | 8 => .array .boolean
  | 9 => .array .int
  | _ => .int
abbrev wsX90 : List Cond := u_ws RX9 TX9 11
theorem nmX9 : ∀ a, a < 11 → ∀ b, b < 11 → a ≠ b → (TX9 a).2.1 ≠ (TX9 b).2.1 := by decide +kernel
theorem tyX9_ok : ∀ k, k < 11 → parseFieldDescriptor (TX9 k).2.2.1 = some (tyX9 k) := by decide +kernel
abbrev cX9_init : ByteArray := prog_11_method_1_code
def yX9_init : MethodName := ⟨RX9, "<init>", "()V"⟩
abbrev cX9_empty : ByteArray := prog_11_method_2_code
def yX9_empty : MethodName := ⟨RX9, "empty", "()V"⟩
abbrev cX9_add : ByteArray := prog_11_method_3_code
def yX9_add : MethodName := ⟨RX9, "add", "(III)I"⟩
abbrev cX9_takes : ByteArray := prog_11_method_4_code
def yX9_takes : MethodName := ⟨RX9, "takes", "(II)Z"⟩
abbrev cX9_hasValue : ByteArray := prog_11_method_5_code
def yX9_hasValue : MethodName := ⟨RX9, "hasValue", "(I)Z"⟩
abbrev cX9_findLights : ByteArray := prog_11_method_6_code
def yX9_findLights : MethodName := ⟨RX9, "findLights", "()V"⟩
abbrev cX9_findLighted : ByteArray := prog_11_method_7_code
def yX9_findLighted : MethodName := ⟨RX9, "findLighted", "()V"⟩
abbrev cX9_standBehind : ByteArray := prog_11_method_8_code
def yX9_standBehind : MethodName := ⟨RX9, "standBehind", "(II)V"⟩
abbrev cX9_join : ByteArray := prog_11_method_9_code
def yX9_join : MethodName := ⟨RX9, "join", "(II)V"⟩
abbrev cX9_has : ByteArray := prog_11_method_10_code
def yX9_has : MethodName := ⟨RX9, "has", "(I)Z"⟩
abbrev cX9_size : ByteArray := prog_11_method_11_code
def yX9_size : MethodName := ⟨RX9, "size", "()I"⟩
abbrev cX9_kindOf : ByteArray := prog_11_method_12_code
def yX9_kindOf : MethodName := ⟨RX9, "kindOf", "(I)I"⟩
abbrev cX9_valueOf : ByteArray := prog_11_method_13_code
def yX9_valueOf : MethodName := ⟨RX9, "valueOf", "(I)I"⟩
abbrev cX9_groupOf : ByteArray := prog_11_method_14_code
def yX9_groupOf : MethodName := ⟨RX9, "groupOf", "(I)I"⟩
abbrev cX9_placeOf : ByteArray := prog_11_method_15_code
def yX9_placeOf : MethodName := ⟨RX9, "placeOf", "(I)I"⟩
abbrev cX9_lightsOf : ByteArray := prog_11_method_16_code
def yX9_lightsOf : MethodName := ⟨RX9, "lightsOf", "(I)I"⟩
abbrev cX9_firstIn : ByteArray := prog_11_method_17_code
def yX9_firstIn : MethodName := ⟨RX9, "firstIn", "(I)I"⟩
abbrev cX9_behind : ByteArray := prog_11_method_18_code
def yX9_behind : MethodName := ⟨RX9, "behind", "(I)I"⟩
abbrev cX9_areNeighbours : ByteArray := prog_11_method_19_code
def yX9_areNeighbours : MethodName := ⟨RX9, "areNeighbours", "(II)Z"⟩
def RX10 : String := "SwitchDesk"
def TX10 : u_T := fun k => match k with
  | 0 => ("SwitchDesk", "numbers", "LSwitchDesk$Numbers;", true)
  | 1 => ("SwitchDesk", "tray", "LSwitchDesk$Tray;", true)
  | 2 => ("SwitchDesk", "lamp", "LSwitchDesk$Lamp;", true)
  | 3 => ("SwitchDesk", "sheet", "LSwitchDesk$Sheet;", true)
  | 4 => ("SwitchDesk", "tape", "LSwitchDesk$Tape;", true)
  | 5 => ("SwitchDesk", "book", "LSwitchDesk$Book;", true)
  | 6 => ("SwitchDesk", "finder", "LSwitchDesk$Finder;", true)
  | 7 => ("SwitchDesk", "shares", "LSwitchDesk$Shares;", true)
  | _ => ("SwitchDesk", "plan", "LSwitchDesk$Plan;", true)
def tyX10 : Nat → FieldType := fun k => match k with
  | 0 => .object "SwitchDesk$Numbers"
  | 1 => .object "SwitchDesk$Tray"
  | 2 => .object "SwitchDesk$Lamp"
  | 3 => .object "SwitchDesk$Sheet"
  | 4 => .object "SwitchDesk$Tape"
  | 5 => .object "SwitchDesk$Book"
  | 6 => .object "SwitchDesk$Finder"
  | 7 => .object "SwitchDesk$Shares"
  | _ => .object "SwitchDesk$Plan"
abbrev wsX100 : List Cond := u_ws RX10 TX10 9
theorem nmX10 : ∀ a, a < 9 → ∀ b, b < 9 → a ≠ b → (TX10 a).2.1 ≠ (TX10 b).2.1 := by decide +kernel
theorem tyX10_ok : ∀ k, k < 9 → parseFieldDescriptor (TX10 k).2.2.1 = some (tyX10 k) := by decide +kernel
abbrev cX10_init : ByteArray := prog_1_method_1_code
def yX10_init : MethodName := ⟨RX10, "<init>", "()V"⟩
abbrev cX10_node : ByteArray := prog_1_method_2_code
def yX10_node : MethodName := ⟨RX10, "node", "(III)I"⟩
abbrev cX10_clear : ByteArray := prog_1_method_3_code
def yX10_clear : MethodName := ⟨RX10, "clear", "()V"⟩
abbrev cX10_told : ByteArray := prog_1_method_4_code
def yX10_told : MethodName := ⟨RX10, "told", "(II)I"⟩
abbrev cX10_set : ByteArray := prog_1_method_5_code
def yX10_set : MethodName := ⟨RX10, "set", "(II)Z"⟩
abbrev cX10_tick : ByteArray := prog_1_method_6_code
def yX10_tick : MethodName := ⟨RX10, "tick", "(I)I"⟩
abbrev cX10_press : ByteArray := prog_1_method_7_code
def yX10_press : MethodName := ⟨RX10, "press", "()I"⟩
abbrev cX10_state : ByteArray := prog_1_method_8_code
def yX10_state : MethodName := ⟨RX10, "state", "(I)I"⟩
abbrev cX10_length : ByteArray := prog_1_method_9_code
def yX10_length : MethodName := ⟨RX10, "length", "(I)I"⟩
abbrev cX10_at : ByteArray := prog_1_method_10_code
def yX10_at : MethodName := ⟨RX10, "at", "(II)I"⟩
abbrev cX10_feed : ByteArray := prog_1_method_11_code
def yX10_feed : MethodName := ⟨RX10, "feed", "(II)I"⟩
abbrev cX10_end : ByteArray := prog_1_method_12_code
def yX10_end : MethodName := ⟨RX10, "end", "(I)Z"⟩
abbrev cX10_word : ByteArray := prog_1_method_13_code
def yX10_word : MethodName := ⟨RX10, "word", "(I)I"⟩
abbrev cX10_letter : ByteArray := prog_1_method_14_code
def yX10_letter : MethodName := ⟨RX10, "letter", "(II)I"⟩
abbrev cX10_foreseen : ByteArray := prog_1_method_15_code
def yX10_foreseen : MethodName := ⟨RX10, "foreseen", "(I)I"⟩
abbrev cX10_offered : ByteArray := prog_1_method_16_code
def yX10_offered : MethodName := ⟨RX10, "offered", "(I)I"⟩
abbrev cX10_near : ByteArray := prog_1_method_17_code
def yX10_near : MethodName := ⟨RX10, "near", "(II)I"⟩
abbrev cX10_share : ByteArray := prog_1_method_18_code
def yX10_share : MethodName := ⟨RX10, "share", "(II)Z"⟩
abbrev cX10_cost : ByteArray := prog_1_method_19_code
def yX10_cost : MethodName := ⟨RX10, "cost", "(I)I"⟩
abbrev cX10_mean : ByteArray := prog_1_method_20_code
def yX10_mean : MethodName := ⟨RX10, "mean", "(I)J"⟩
abbrev cX10_lay : ByteArray := prog_1_method_21_code
def yX10_lay : MethodName := ⟨RX10, "lay", "()I"⟩
abbrev cX10_count : ByteArray := prog_1_method_22_code
def yX10_count : MethodName := ⟨RX10, "count", "(I)I"⟩
abbrev cX10_showTrayAnew : ByteArray := prog_1_method_23_code
def yX10_showTrayAnew : MethodName := ⟨RX10, "showTrayAnew", "()V"⟩
abbrev cX10_act : ByteArray := prog_1_method_24_code
def yX10_act : MethodName := ⟨RX10, "act", "(I)V"⟩
abbrev cX10_isLetter : ByteArray := prog_1_method_25_code
def yX10_isLetter : MethodName := ⟨RX10, "isLetter", "(I)Z"⟩
abbrev cX10_within : ByteArray := prog_1_method_26_code
def yX10_within : MethodName := ⟨RX10, "within", "(III)Z"⟩
def RX11 : String := "SwitchDeskModel"
def TX11 : u_T := fun k => match k with
  | 0 => ("SwitchDeskModel", "thrown", "I", false)
  | 1 => ("SwitchDeskModel", "kind", "[I", true)
  | 2 => ("SwitchDeskModel", "value", "[I", true)
  | 3 => ("SwitchDeskModel", "in", "[I", true)
  | 4 => ("SwitchDeskModel", "number", "[I", true)
  | 5 => ("SwitchDeskModel", "nodes", "I", false)
  | 6 => ("SwitchDeskModel", "keyed", "[Z", true)
  | 7 => ("SwitchDeskModel", "lightRow", "[I", true)
  | 8 => ("SwitchDeskModel", "lightMany", "[I", true)
  | 9 => ("SwitchDeskModel", "place", "[I", true)
  | 10 => ("SwitchDeskModel", "now", "I", false)
  | 11 => ("SwitchDeskModel", "at", "I", false)
  | 12 => ("SwitchDeskModel", "lit", "I", false)
  | 13 => ("SwitchDeskModel", "before", "I", false)
  | 14 => ("SwitchDeskModel", "changed", "I", false)
  | 15 => ("SwitchDeskModel", "rounds", "I", false)
  | 16 => ("SwitchDeskModel", "presses", "I", false)
  | 17 => ("SwitchDeskModel", "lastPress", "I", false)
  | 18 => ("SwitchDeskModel", "text", "[B", true)
  | 19 => ("SwitchDeskModel", "said", "[B", true)
  | 20 => ("SwitchDeskModel", "keptText", "[B", true)
  | 21 => ("SwitchDeskModel", "keptSaid", "[B", true)
  | 22 => ("SwitchDeskModel", "keptTextLong", "[I", true)
  | 23 => ("SwitchDeskModel", "keptSaidLong", "[I", true)
  | 24 => ("SwitchDeskModel", "textLong", "I", false)
  | 25 => ("SwitchDeskModel", "saidLong", "I", false)
  | 26 => ("SwitchDeskModel", "kept", "I", false)
  | 27 => ("SwitchDeskModel", "tape", "[B", true)
  | 28 => ("SwitchDeskModel", "word", "[B", true)
  | 29 => ("SwitchDeskModel", "wordLong", "[I", true)
  | 30 => ("SwitchDeskModel", "count", "[I", true)
  | 31 => ("SwitchDeskModel", "tapeLong", "I", false)
  | 32 => ("SwitchDeskModel", "words", "I", false)
  | 33 => ("SwitchDeskModel", "mark", "[I", true)
  | 34 => ("SwitchDeskModel", "share", "[I", true)
  | 35 => ("SwitchDeskModel", "rest", "[J", true)
  | 36 => ("SwitchDeskModel", "inside", "[J", true)
  | _ => ("SwitchDeskModel", "row", "[B", true)
def tyX11 : Nat → FieldType := fun k => match k with
  | 0 => .int
  | 1 => .array .int
  | 2 => .array .int
  | 3 => .array .int
  | 4 => .array .int
  | 5 => .int
  | 6 => .array .boolean
  | 7 => .array .int
  | 8 => .array .int
  | 9 => .array .int
  | 10 => .int
  | 11 => .int
  | 12 => .int
  | 13 => .int
  | 14 => .int
  | 15 => .int
  | 16 => .int
  | 17 => .int
  | 18 => .array .byte
  | 19 => .array .byte
  | 20 => .array .byte
  | 21 => .array .byte
  | 22 => .array .int
  | 23 => .array .int
  | 24 => .int
  | 25 => .int
  | 26 => .int
  | 27 => .array .byte
  | 28 => .array .byte
  | 29 => .array .int
  | 30 => .array .int
  | 31 => .int
  | 32 => .int
  | 33 => .array .int
  | 34 => .array .int
  | 35 => .array .long
  | 36 => .array .long
  | _ => .array .byte
abbrev wsX110 : List Cond := u_ws RX11 TX11 38
theorem nmX11 : ∀ a, a < 38 → ∀ b, b < 38 → a ≠ b → (TX11 a).2.1 ≠ (TX11 b).2.1 := by decide +kernel
theorem tyX11_ok : ∀ k, k < 38 → parseFieldDescriptor (TX11 k).2.2.1 = some (tyX11 k) := by decide +kernel
abbrev cX11_init : ByteArray := prog_13_method_1_code
def yX11_init : MethodName := ⟨RX11, "<init>", "()V"⟩
abbrev cX11_thrown : ByteArray := prog_13_method_2_code
def yX11_thrown : MethodName := ⟨RX11, "thrown", "()I"⟩
abbrev cX11_isIn : ByteArray := prog_13_method_3_code
def yX11_isIn : MethodName := ⟨RX11, "isIn", "(III)Z"⟩
abbrev cX11_isNode : ByteArray := prog_13_method_4_code
def yX11_isNode : MethodName := ⟨RX11, "isNode", "(I)Z"⟩
abbrev cX11_isSmall : ByteArray := prog_13_method_5_code
def yX11_isSmall : MethodName := ⟨RX11, "isSmall", "(I)Z"⟩
abbrev cX11_looks : ByteArray := prog_13_method_6_code
def yX11_looks : MethodName := ⟨RX11, "looks", "()V"⟩
abbrev cX11_hasKey : ByteArray := prog_13_method_7_code
def yX11_hasKey : MethodName := ⟨RX11, "hasKey", "(I)Z"⟩
abbrev cX11_light : ByteArray := prog_13_method_8_code
def yX11_light : MethodName := ⟨RX11, "light", "(II)I"⟩
abbrev cX11_lights : ByteArray := prog_13_method_9_code
def yX11_lights : MethodName := ⟨RX11, "lights", "(I)I"⟩
abbrev cX11_placeOf : ByteArray := prog_13_method_10_code
def yX11_placeOf : MethodName := ⟨RX11, "placeOf", "(I)I"⟩
abbrev cX11_comes : ByteArray := prog_13_method_11_code
def yX11_comes : MethodName := ⟨RX11, "comes", "(I)V"⟩
abbrev cX11_node : ByteArray := prog_13_method_12_code
def yX11_node : MethodName := ⟨RX11, "node", "(III)I"⟩
abbrev cX11_adds : ByteArray := prog_13_method_13_code
def yX11_adds : MethodName := ⟨RX11, "adds", "(III)I"⟩
abbrev cX11_clear : ByteArray := prog_13_method_14_code
def yX11_clear : MethodName := ⟨RX11, "clear", "()V"⟩
abbrev cX11_told : ByteArray := prog_13_method_15_code
def yX11_told : MethodName := ⟨RX11, "told", "(II)I"⟩
abbrev cX11_set : ByteArray := prog_13_method_16_code
def yX11_set : MethodName := ⟨RX11, "set", "(II)Z"⟩
abbrev cX11_tick : ByteArray := prog_13_method_17_code
def yX11_tick : MethodName := ⟨RX11, "tick", "(I)I"⟩
abbrev cX11_ticks : ByteArray := prog_13_method_18_code
def yX11_ticks : MethodName := ⟨RX11, "ticks", "()V"⟩
abbrev cX11_press : ByteArray := prog_13_method_19_code
def yX11_press : MethodName := ⟨RX11, "press", "()I"⟩
abbrev cX11_state : ByteArray := prog_13_method_20_code
def yX11_state : MethodName := ⟨RX11, "state", "(I)I"⟩
abbrev cX11_keep : ByteArray := prog_13_method_21_code
def yX11_keep : MethodName := ⟨RX11, "keep", "()V"⟩
abbrev cX11_undo : ByteArray := prog_13_method_22_code
def yX11_undo : MethodName := ⟨RX11, "undo", "()V"⟩
abbrev cX11_put : ByteArray := prog_13_method_23_code
def yX11_put : MethodName := ⟨RX11, "put", "(I)V"⟩
abbrev cX11_acts : ByteArray := prog_13_method_24_code
def yX11_acts : MethodName := ⟨RX11, "acts", "(I)V"⟩
abbrev cX11_length : ByteArray := prog_13_method_25_code
def yX11_length : MethodName := ⟨RX11, "length", "(I)I"⟩
abbrev cX11_at : ByteArray := prog_13_method_26_code
def yX11_at : MethodName := ⟨RX11, "at", "(II)I"⟩
abbrev cX11_bytesIn : ByteArray := prog_13_method_27_code
def yX11_bytesIn : MethodName := ⟨RX11, "bytesIn", "(I)I"⟩
abbrev cX11_feed : ByteArray := prog_13_method_28_code
def yX11_feed : MethodName := ⟨RX11, "feed", "(II)I"⟩
abbrev cX11_end : ByteArray := prog_13_method_29_code
def yX11_end : MethodName := ⟨RX11, "end", "(I)Z"⟩
abbrev cX11_isRow : ByteArray := prog_13_method_30_code
def yX11_isRow : MethodName := ⟨RX11, "isRow", "()Z"⟩
abbrev cX11_word : ByteArray := prog_13_method_31_code
def yX11_word : MethodName := ⟨RX11, "word", "(I)I"⟩
abbrev cX11_isWord : ByteArray := prog_13_method_32_code
def yX11_isWord : MethodName := ⟨RX11, "isWord", "(I)Z"⟩
abbrev cX11_letter : ByteArray := prog_13_method_33_code
def yX11_letter : MethodName := ⟨RX11, "letter", "(II)I"⟩
abbrev cX11_written : ByteArray := prog_13_method_34_code
def yX11_written : MethodName := ⟨RX11, "written", "()I"⟩
abbrev cX11_ranked : ByteArray := prog_13_method_35_code
def yX11_ranked : MethodName := ⟨RX11, "ranked", "(I)I"⟩
abbrev cX11_foreseenAt : ByteArray := prog_13_method_36_code
def yX11_foreseenAt : MethodName := ⟨RX11, "foreseenAt", "(I)I"⟩
abbrev cX11_areNear : ByteArray := prog_13_method_37_code
def yX11_areNear : MethodName := ⟨RX11, "areNear", "(II)Z"⟩
abbrev cX11_near : ByteArray := prog_13_method_38_code
def yX11_near : MethodName := ⟨RX11, "near", "(II)I"⟩
abbrev cX11_offeredAt : ByteArray := prog_13_method_39_code
def yX11_offeredAt : MethodName := ⟨RX11, "offeredAt", "(I)I"⟩
abbrev cX11_foreseen : ByteArray := prog_13_method_40_code
def yX11_foreseen : MethodName := ⟨RX11, "foreseen", "(I)I"⟩
abbrev cX11_offered : ByteArray := prog_13_method_41_code
def yX11_offered : MethodName := ⟨RX11, "offered", "(I)I"⟩
abbrev cX11_share : ByteArray := prog_13_method_42_code
def yX11_share : MethodName := ⟨RX11, "share", "(II)Z"⟩
abbrev cX11_costOf : ByteArray := prog_13_method_43_code
def yX11_costOf : MethodName := ⟨RX11, "costOf", "(I)I"⟩
abbrev cX11_cost : ByteArray := prog_13_method_44_code
def yX11_cost : MethodName := ⟨RX11, "cost", "(I)I"⟩
abbrev cX11_mean : ByteArray := prog_13_method_45_code
def yX11_mean : MethodName := ⟨RX11, "mean", "(I)J"⟩
abbrev cX11_weight : ByteArray := prog_13_method_46_code
def yX11_weight : MethodName := ⟨RX11, "weight", "(II)J"⟩
abbrev cX11_index : ByteArray := prog_13_method_47_code
def yX11_index : MethodName := ⟨RX11, "index", "(III)I"⟩
abbrev cX11_item : ByteArray := prog_13_method_48_code
def yX11_item : MethodName := ⟨RX11, "item", "(III)J"⟩
abbrev cX11_sums : ByteArray := prog_13_method_49_code
def yX11_sums : MethodName := ⟨RX11, "sums", "(I)V"⟩
abbrev cX11_lays : ByteArray := prog_13_method_50_code
def yX11_lays : MethodName := ⟨RX11, "lays", "(IIIIZ)V"⟩
abbrev cX11_lay : ByteArray := prog_13_method_51_code
def yX11_lay : MethodName := ⟨RX11, "lay", "()I"⟩
abbrev cX11_count : ByteArray := prog_13_method_52_code
def yX11_count : MethodName := ⟨RX11, "count", "(I)I"⟩
def RJ9 : String := "java/lang/Math"
def TJ9 : u_T := fun k => match k with
  | _ => ("", "", "", false)
def tyJ9 : Nat → FieldType := fun k => match k with
  | _ => .int
abbrev wsJ90 : List Cond := u_ws RJ9 TJ9 0
theorem nmJ9 : ∀ a, a < 0 → ∀ b, b < 0 → a ≠ b → (TJ9 a).2.1 ≠ (TJ9 b).2.1 := by decide +kernel
theorem tyJ9_ok : ∀ k, k < 0 → parseFieldDescriptor (TJ9 k).2.2.1 = some (tyJ9 k) := by decide +kernel
abbrev cJ9_max_7cf53 : ByteArray := prog_15_method_65_code
def yJ9_max_7cf53 : MethodName := ⟨RJ9, "max", "(II)I"⟩
abbrev cJ9_min_7cf53 : ByteArray := prog_15_method_69_code
def yJ9_min_7cf53 : MethodName := ⟨RJ9, "min", "(II)I"⟩
abbrev cJ9_min_f86c9 : ByteArray := prog_15_method_70_code
def yJ9_min_f86c9 : MethodName := ⟨RJ9, "min", "(JJ)J"⟩
def RJ7 : String := "java/util/Arrays"
def TJ7 : u_T := fun k => match k with
  | _ => ("", "", "", false)
def tyJ7 : Nat → FieldType := fun k => match k with
  | _ => .int
abbrev wsJ70 : List Cond := u_ws RJ7 TJ7 0
theorem nmJ7 : ∀ a, a < 0 → ∀ b, b < 0 → a ≠ b → (TJ7 a).2.1 ≠ (TJ7 b).2.1 := by decide +kernel
theorem tyJ7_ok : ∀ k, k < 0 → parseFieldDescriptor (TJ7 k).2.2.1 = some (tyJ7 k) := by decide +kernel
abbrev cJ7_fill_53178 : ByteArray := prog_18_method_103_code
def yJ7_fill_53178 : MethodName := ⟨RJ7, "fill", "([II)V"⟩
def RL : String := "SwitchDeskLaw"
abbrev cL_at : ByteArray := method_3_code
def yL_at : MethodName := ⟨RL, "at", "(LSwitchDesk;II[J)I"⟩
abbrev cL_letter : ByteArray := method_4_code
def yL_letter : MethodName := ⟨RL, "letter", "(LSwitchDesk;II[J)I"⟩
abbrev cL_law : ByteArray := code
def yL_law : MethodName := ⟨RL, "law", "([I)Z"⟩
abbrev vwCl : List vw_C := [(RX0, TX0, 4), (RX1, TX1, 3), (RX2, TX2, 7), (RX3, TX3, 10), (RX4, TX4, 1), (RX5, TX5, 5), (RX6, TX6, 4), (RX7, TX7, 7), (RX8, TX8, 2), (RX9, TX9, 11), (RX10, TX10, 9), (RX11, TX11, 38)]
end
section
/-! THE TRIPLE E: a method's walk over a PURE heap. A pure heap is a list of cells; a reference is the place of its cell; places 0, 1, 2 are three int arrays that nobody writes (the script, two tables). -/
abbrev PCell : Type := (Nat × vp_A) ⊕ (Nat × List Value)
abbrev HP : Type := List PCell
abbrev MI : Type := MethodName × ByteArray × Nat × Option FieldType
def R_nse : String := "java/util/NoSuchElementException"
def CL : List vw_C := vwCl ++ [(R_nse, TX0, 0)]
def kty (k : Nat) : FieldType := match k with
  | 0 => .int
  | 1 => .boolean
  | 2 => .byte
  | 3 => .long
  | _ => .object "SwitchDesk$Chain"
def adr (N0 : Nat) (B : Nat → Nat) (i : Nat) : Nat := if i < 3 then B i else N0 + (i - 3)
def tv (a : Nat → Nat) (v : Value) : Value := match v with
  | .ref i => .ref (a i)
  | .int x => .int x
  | .long x => .long x
  | .float x => .float x
  | .double x => .double x
  | .null => .null
  | .retAddr x => .retAddr x
def ta (a : Nat → Nat) (x : vp_A) : vp_A := (x.1, match x.2 with
  | .inr (.inr (.inr (.inr f))) => .inr (.inr (.inr (.inr (fun j => (f j).map a))))
  | .inl f => .inl f
  | .inr (.inl f) => .inr (.inl f)
  | .inr (.inr (.inl f)) => .inr (.inr (.inl f))
  | .inr (.inr (.inr (.inl f))) => .inr (.inr (.inr (.inl f))))
def te (a : Nat → Nat) (cA : ClassId) (c : PCell) : va_E := match c with
  | .inl q => .inl (cA, ta a q.2)
  | .inr q => .inr (q.1, q.2.map (tv a))
def wd (N0 : Nat) (B : Nat → Nat) (ca : Nat → ClassId) (h : HP) : va_W := (h.drop 3).mapIdx (fun i c => (N0 + i, te (adr N0 B) (ca (i + 3)) c))
def AA (N0 : Nat) : Nat → Prop := fun q => N0 ≤ q
theorem tv_cat (a : Nat → Nat) (v : Value) : (tv a v).category = v.category := by cases v <;> rfl
theorem tv_rf (a : Nat → Nat) (r : Option Nat) : tv a (va_rf r) = va_rf (r.map a) := by cases r <;> rfl
theorem adr_ge {N0 : Nat} {B : Nat → Nat} {i : Nat} (h : 3 ≤ i) : adr N0 B i = N0 + (i - 3) := by
  unfold adr
  rw [if_neg (by omega)]
theorem wd_get {N0 : Nat} {B : Nat → Nat} {ca : Nat → ClassId} {h : HP} {i : Nat} {c : PCell} (h3 : 3 ≤ i) (hc : h[i]? = some c) : (wd N0 B ca h)[i - 3]? = some (adr N0 B i, te (adr N0 B) (ca i) c) := by
  unfold wd
  rw [List.getElem?_mapIdx, List.getElem?_drop, show 3 + (i - 3) = i by omega, hc, Option.map_some, adr_ge h3, show i - 3 + 3 = i by omega]
theorem wd_of {N0 : Nat} {B : Nat → Nat} {ca : Nat → ClassId} {h : HP} {k : Nat} {q : Nat × va_E} (hq : (wd N0 B ca h)[k]? = some q) : ∃ c, h[k + 3]? = some c ∧ q = (N0 + k, te (adr N0 B) (ca (k + 3)) c) := by
  unfold wd at hq
  rw [List.getElem?_mapIdx, List.getElem?_drop, show 3 + k = k + 3 by omega] at hq
  cases hc : h[k + 3]? with
  | none => rw [hc] at hq; simp at hq
  | some c =>
    rw [hc, Option.map_some] at hq
    exact ⟨c, rfl, (Option.some.inj hq).symm⟩
theorem wd_D {N0 : Nat} {B : Nat → Nat} {ca : Nat → ClassId} {h : HP} : va_D (AA N0) (wd N0 B ca h) := by
  refine ⟨fun i j p q hp hq e => ?_, fun k q hq => ?_⟩
  · obtain ⟨_, -, rfl⟩ := wd_of hp
    obtain ⟨_, -, rfl⟩ := wd_of hq
    dsimp only at e
    omega
  · obtain ⟨_, -, rfl⟩ := wd_of hq
    exact Nat.le_add_right _ _
theorem wd_set {N0 : Nat} {B : Nat → Nat} {ca : Nat → ClassId} {h : HP} {i : Nat} {c : PCell} (h3 : 3 ≤ i) : (wd N0 B ca h).set (i - 3) (adr N0 B i, te (adr N0 B) (ca i) c) = wd N0 B ca (h.set i c) := by
  apply List.ext_getElem?
  intro k
  unfold wd
  simp only [List.getElem?_set, List.getElem?_mapIdx, List.getElem?_drop, List.length_mapIdx, List.length_drop, adr_ge h3]
  by_cases hk : i - 3 = k
  · subst hk
    rw [if_pos rfl, if_pos (show i = 3 + (i - 3) by omega)]
    by_cases hl : i < h.length
    · rw [if_pos (by omega), if_pos (by omega), Option.map_some, show i - 3 + 3 = i by omega]
    · rw [if_neg (by omega), if_neg (by omega), Option.map_none]
  · rw [if_neg hk, if_neg (by omega)]
theorem wd_push {N0 : Nat} {B : Nat → Nat} {ca ca' : Nat → ClassId} {h : HP} {c : PCell} (h3 : 3 ≤ h.length) (hca : ∀ i, i < h.length → ca' i = ca i) : wd N0 B ca' (h ++ [c]) = wd N0 B ca h ++ [(N0 + (h.length - 3), te (adr N0 B) (ca' h.length) c)] := by
  unfold wd
  rw [List.drop_append_of_le_length h3, List.mapIdx_append]
  congr 1
  · apply List.ext_getElem?
    intro k
    simp only [List.getElem?_mapIdx, List.getElem?_drop]
    by_cases hl : 3 + k < h.length
    · rw [hca (k + 3) (by omega)]
    · rw [List.getElem?_eq_none (by omega)]
      rfl
  · simp only [List.mapIdx_cons, List.mapIdx_nil, List.length_drop, Nat.zero_add, show h.length - 3 + 3 = h.length by omega]
/-- what nobody writes: the script, the two tables, the statics that are only carried -/
def XI (N0 : Nat) (B : Nat → Nat) (h : HP) (U : State) (H : Heap) : Prop :=
  (∀ j, j < 3 → ∃ (n : Nat) (f : Nat → Int32), h[j]? = some (.inl (5, n, .inl f)) ∧ va_T .int (B j) n (fun i => .int (f i)) (AA N0) U H) ∧
  va_Z "SwitchDesk$Numbers" "LOWEST" "[I" (.ref (B 1)) (AA N0) U H ∧ va_Z "SwitchDesk$Numbers" "HIGHEST" "[I" (.ref (B 2)) (AA N0) U H ∧
  va_Zq "java/lang/Throwable" "UNASSIGNED_STACK" "[Ljava/lang/StackTraceElement;" (AA N0) U H ∧ va_Zq "java/lang/Throwable" "SUPPRESSED_SENTINEL" "Ljava/util/List;" (AA N0) U H
def HI (N0 : Nat) (B : Nat → Nat) (D : va_G) (ca : Nat → ClassId) (tys : List (ClassId × FieldType)) (h : HP) (U : State) (H : Heap) : Prop :=
  va_K D CL tys U ∧ va_P D CL (wd N0 B ca h) H ∧ H.size + 3 = N0 + h.length ∧ 3 ≤ h.length ∧ (∀ (i k : Nat) (x : vp_A), h[i]? = some (.inl (k, x)) → 3 ≤ i → k < 5 ∧ ∃ t : Nat, tys[t]? = some (ca i, kty k)) ∧ XI N0 B h U H
theorem XI.moved {N0 : Nat} {B : Nat → Nat} {h : HP} {u U : State} {H : Heap} (hvm : u.vm.Alike U.vm) (hX : XI N0 B h u H) : XI N0 B h U H := by
  obtain ⟨h1, h2, h3, h4, h5⟩ := hX
  refine ⟨fun j hj => ?_, h2.moved hvm, h3.moved hvm, h4.moved hvm, h5.moved hvm⟩
  obtain ⟨n, f, a, b⟩ := h1 j hj
  exact ⟨n, f, a, b.moved hvm⟩
theorem XI.kept {N0 : Nat} {B : Nat → Nat} {h h' : HP} {U : State} {H H1 : Heap} (hX : XI N0 B h U H) (hh : ∀ j, j < 3 → h'[j]? = h[j]?) (hq : ∀ a : Nat, a < H.size → ¬ AA N0 a → H1[a]? = H[a]?) : XI N0 B h' U H1 := by
  obtain ⟨h1, h2, h3, h4, h5⟩ := hX
  refine ⟨fun j hj => ?_, h2.kept hq, h3.kept hq, h4.kept hq, h5.kept hq⟩
  obtain ⟨n, f, a, b⟩ := h1 j hj
  exact ⟨n, f, by rw [hh j hj]; exact a, b.kept hq⟩
theorem HI.moved {N0 : Nat} {B : Nat → Nat} {D : va_G} {ca : Nat → ClassId} {tys : List (ClassId × FieldType)} {h : HP} {u U : State} {H : Heap} (hvm : u.vm.Alike U.vm) (hI : HI N0 B D ca tys h u H) : HI N0 B D ca tys h U H := by
  obtain ⟨h1, h2, h3, h4, h5, h6⟩ := hI
  exact ⟨h1.moved hvm, h2, h3, h4, h5, h6.moved hvm⟩
def GT : List Cond := lw_tbl.filter goodWord
theorem gt_in {w : Cond} (i : Nat) (h : tables_1[i]? = some w) (hg : goodWord w = true) : w ∈ GT := List.mem_filter.mpr ⟨List.mem_append_right _ (List.mem_of_getElem? h), hg⟩
theorem gt_sel {q : MethodName × Nat} (i : Nat) (h : lw_privs[i]? = some q) : Cond.selects q.1.cls q.1 q.1 ∈ GT := List.mem_filter.mpr ⟨List.mem_append_left _ (List.mem_map.mpr ⟨q, List.mem_of_getElem? h, rfl⟩), rfl⟩
theorem gt_good (y : MI) (hy : Cond.code y.1 y.2.1 y.2.2.1 y.2.2.2 ∈ GT) : GoodIn GT (Cond.code y.1 y.2.1 y.2.2.1 y.2.2.2 :: GT) := by
  intro w hw
  rcases List.mem_cons.mp hw with rfl | h
  · exact ⟨hy, good_of_word (List.mem_filter.mp hy).2⟩
  · exact ⟨h, good_of_word (List.mem_filter.mp h).2⟩
/-- the links between nest mates -/
def NI (U : State) : Prop := (∀ a i x b, Cond.methodLinkNest a i x b ∈ lw_tbl → va_Nw (.methodLinkNest a i x b) U) ∧ (∀ a i r n d b, Cond.fieldLinkNest a i r n d b ∈ lw_tbl → va_Nw (.fieldLinkNest a i r n d b) U) ∧ va_AO "SwitchDesk$Chain" U
def CX (y : MI) (p : Program) (s : State) (m : MethodId) (args : Array Value) (meth : Method) (c : Code) : Prop :=
  p.tables.exec = Jvm.exec ∧ c.code = y.2.1 ∧ meth.sig.returnType = y.2.2.2 ∧ c.maxLocals = y.2.2.1 ∧ s.vm.findClass y.1.cls = some m.cls ∧ (∀ w ∈ GT, w.before args s = true) ∧ meth.locks = false ∧ meth.name = y.1.name ∧ NI s
def RM (R : Room) (d mc ms : Nat) : Prop := d ≤ R.frames ∧ 40 * d ≤ R.locals ∧ mc ≤ R.cells ∧ ms ≤ R.slots
def EQ (N0 : Nat) (B : Nat → Nat) (D : va_G) (Q : Option Value → HP → Prop) : Array Value → State → Outcome → State → Prop := fun _ st o t =>
  ∃ (r : Option Value) (h : HP) (ca : Nat → ClassId) (tys : List (ClassId × FieldType)), o = .returned (r.map (tv (adr N0 B))) ∧ Q r h ∧ HI N0 B D ca tys h t t.heap ∧ va_F (AA N0) st t
def lm (a : Nat → Nat) (lv : List (Nat × Value)) : List (Nat × Value) := lv.map (fun q => (q.1, tv a q.2))
/-- from method y at pc, locals lv, operand stack st, pure heap h: it returns, and Q; at most d frames deep, at most k cells of n slots are made -/
def E (y : MI) (d k n pc : Nat) (lv : List (Nat × Value)) (st : List Value) (h : HP) (Q : Option Value → HP → Prop) : Prop :=
  ∀ (p : Program) (l : Launch) (e : Env) (R : Room) (s : State) (m : MethodId) (args : Array Value) (below : List Frame) (meth : Method) (c : Code) (H : Heap) (locs : List Loc) (cells slots mc ms N0 : Nat) (B : Nat → Nat) (D : va_G) (ca : Nat → ClassId) (tys : List (ClassId × FieldType)) (ls : Array Slot),
    CX y p s m args meth c → RM R d mc ms → cells + k ≤ mc → slots + n ≤ ms → N0 ≤ s.heap.size → va_S (AA N0) s.heap H locs → HI N0 B D ca tys h s H → lv_has ls y.2.2.1 (lm (adr N0 B) lv) →
    W p l e R s m args below meth c H locs cells slots (MQ below (EQ N0 B D Q) args s mc ms (AA N0)) (F0 m pc ls (st.map (tv (adr N0 B))))
section EL
variable {y : MI} {d k n pc : Nat} {lv : List (Nat × Value)} {st : List Value} {h : HP} {Q : Option Value → HP → Prop}
theorem lm_filter (a : Nat → Nat) (lv : List (Nat × Value)) (i : Nat) : (lm a lv).filter (fun q => !(q.1 == i) && !(q.1 + 1 == i && q.2.category == 2)) = lm a (lv.filter (fun q => !(q.1 == i) && !(q.1 + 1 == i && q.2.category == 2))) := by
  unfold lm
  rw [List.filter_map]
  congr 1
  apply List.filter_congr
  intro q _
  simp [Function.comp, tv_cat]
theorem lm_filter2 (a : Nat → Nat) (lv : List (Nat × Value)) (i : Nat) : (lm a lv).filter (fun q => !(q.1 == i) && (!(q.1 == i + 1) && !(q.1 + 1 == i && q.2.category == 2))) = lm a (lv.filter (fun q => !(q.1 == i) && (!(q.1 == i + 1) && !(q.1 + 1 == i && q.2.category == 2)))) := by
  unfold lm
  rw [List.filter_map]
  congr 1
  apply List.filter_congr
  intro q _
  simp [Function.comp, tv_cat]
theorem lm_at {ls : Array Slot} {nL : Nat} {a : Nat → Nat} {lv : List (Nat × Value)} {i : Nat} {v : Value} (hl : lv_has ls nL (lm a lv)) (hv : lv.lookup i = some v) : ls[i]? = some (.val (tv a v)) := by
  have hm : (i, v) ∈ lv := by
    clear hl
    induction lv with
    | nil => simp at hv
    | cons q t ih =>
      obtain ⟨j, w⟩ := q
      rw [List.lookup_cons] at hv
      by_cases hj : i == j
      · rw [hj] at hv
        simp only [Option.some.injEq] at hv
        have : i = j := by simpa using hj
        subst this
        subst hv
        exact List.mem_cons_self
      · simp only [hj] at hv
        exact List.mem_cons_of_mem _ (ih hv)
  exact hl.2.2 (i, tv a v) (List.mem_map.mpr ⟨(i, v), hm, rfl⟩)
theorem E.weak {Q' : Option Value → HP → Prop} (hE : E y d k n pc lv st h Q) (hQ : ∀ r h', Q r h' → Q' r h') : E y d k n pc lv st h Q' := by
  intro p l e R s m args below meth c H locs cells slots mc ms N0 B D ca tys ls c1 c2 c3 c4 c5 c6 c7 c8 T hT X
  obtain ⟨t, a1, o, a2, a3, ⟨r, h', ca', tys', b1, b2, b3⟩, a5⟩ := hE p l e R s m args below meth c H locs cells slots mc ms N0 B D ca tys ls c1 c2 c3 c4 c5 c6 c7 c8 T hT X
  exact ⟨t, a1, o, a2, a3, ⟨r, h', ca', tys', b1, hQ _ _ b2, b3⟩, a5⟩
theorem E.mono {d' k' n' : Nat} (hE : E y d k n pc lv st h Q) (h1 : d ≤ d') (h2 : k ≤ k') (h3 : n ≤ n') : E y d' k' n' pc lv st h Q := by
  intro p l e R s m args below meth c H locs cells slots mc ms N0 B D ca tys ls c1 c2 c3 c4 c5 c6 c7 c8
  exact hE p l e R s m args below meth c H locs cells slots mc ms N0 B D ca tys ls c1 ⟨Nat.le_trans h1 c2.1, Nat.le_trans (Nat.mul_le_mul_left 40 h1) c2.2.1, c2.2.2⟩ (by omega) (by omega) c5 c6 c7 c8
/-- fewer locals, in any order -/
theorem E.locals (lv' : List (Nat × Value)) (hs : ∀ q ∈ lv', q ∈ lv) (hE : E y d k n pc lv' st h Q) : E y d k n pc lv st h Q := by
  intro p l e R s m args below meth c H locs cells slots mc ms N0 B D ca tys ls c1 c2 c3 c4 c5 c6 c7 c8
  refine hE p l e R s m args below meth c H locs cells slots mc ms N0 B D ca tys ls c1 c2 c3 c4 c5 c6 c7 ⟨c8.1, c8.2.1, fun q hq => ?_⟩
  obtain ⟨q', h1, rfl⟩ := List.mem_map.mp hq
  exact c8.2.2 _ (List.mem_map.mpr ⟨q', hs q' h1, rfl⟩)
end EL
end
section
/-! ONE RULE AN INSTRUCTION: generated by wip/tools/genrules.py -/
section ER
variable {y : MI} {d k n pc : Nat} {lv : List (Nat × Value)} {st : List Value} {h : HP} {Q : Option Value → HP → Prop}
theorem E_iconst {z : Int} {v : Int32} (hd : decode y.2.1 pc = .ok (.iconst z, 1)) (hv : Int32.ofInt z = v) (K : E y d k n (pc + 1) lv (.int v :: st) h Q) : E y d k n pc lv (st) h Q := by
  intro p l e R s m args below meth c H locs cells slots mc ms N0 B D ca tys ls c1 c2 c3 c4 c5 c6 c7 c8
  exact lv_iconst c1.1 c1.2.1 hd hv (K p l e R s m args below meth c H locs cells slots mc ms N0 B D ca tys ls c1 c2 c3 c4 c5 c6 c7 c8)
theorem E_bipush {z : Int} {v : Int32} (hd : decode y.2.1 pc = .ok (.bipush z, 2)) (hv : (Int8.ofInt z).toInt32 = v) (K : E y d k n (pc + 2) lv (.int v :: st) h Q) : E y d k n pc lv (st) h Q := by
  intro p l e R s m args below meth c H locs cells slots mc ms N0 B D ca tys ls c1 c2 c3 c4 c5 c6 c7 c8
  exact lv_bipush c1.1 c1.2.1 hd hv (K p l e R s m args below meth c H locs cells slots mc ms N0 B D ca tys ls c1 c2 c3 c4 c5 c6 c7 c8)
theorem E_sipush {z : Int} {v : Int32} (hd : decode y.2.1 pc = .ok (.sipush z, 3)) (hv : (Int16.ofInt z).toInt32 = v) (K : E y d k n (pc + 3) lv (.int v :: st) h Q) : E y d k n pc lv (st) h Q := by
  intro p l e R s m args below meth c H locs cells slots mc ms N0 B D ca tys ls c1 c2 c3 c4 c5 c6 c7 c8
  exact lv_sipush c1.1 c1.2.1 hd hv (K p l e R s m args below meth c H locs cells slots mc ms N0 B D ca tys ls c1 c2 c3 c4 c5 c6 c7 c8)
theorem E_lconst {z : Fin 2} {v : Int64} (hd : decode y.2.1 pc = .ok (.lconst z, 1)) (hv : Int64.ofNat (z : Nat) = v) (K : E y d k n (pc + 1) lv (.long v :: st) h Q) : E y d k n pc lv (st) h Q := by
  intro p l e R s m args below meth c H locs cells slots mc ms N0 B D ca tys ls c1 c2 c3 c4 c5 c6 c7 c8
  exact lv_lconst c1.1 c1.2.1 hd hv (K p l e R s m args below meth c H locs cells slots mc ms N0 B D ca tys ls c1 c2 c3 c4 c5 c6 c7 c8)
theorem E_null  (hd : decode y.2.1 pc = .ok (.aconst_null, 1))  (K : E y d k n (pc + 1) lv (.null :: st) h Q) : E y d k n pc lv (st) h Q := by
  intro p l e R s m args below meth c H locs cells slots mc ms N0 B D ca tys ls c1 c2 c3 c4 c5 c6 c7 c8
  exact lv_null c1.1 c1.2.1 hd (K p l e R s m args below meth c H locs cells slots mc ms N0 B D ca tys ls c1 c2 c3 c4 c5 c6 c7 c8)
theorem E_iload_n {i : Fin 4} {x : Int32} (hd : decode y.2.1 pc = .ok (.iload_n i, 1)) (hl : lv.lookup (i : Nat) = some (.int x)) (K : E y d k n (pc + 1) lv (.int x :: st) h Q) : E y d k n pc lv (st) h Q := by
  intro p l e R s m args below meth c H locs cells slots mc ms N0 B D ca tys ls c1 c2 c3 c4 c5 c6 c7 c8
  exact lv_iload_n c1.1 c1.2.1 hd rfl (lm_at c8 hl) (K p l e R s m args below meth c H locs cells slots mc ms N0 B D ca tys ls c1 c2 c3 c4 c5 c6 c7 c8)
theorem E_iload {i : Nat} {x : Int32} (hd : decode y.2.1 pc = .ok (.iload i, 2)) (hl : lv.lookup i = some (.int x)) (K : E y d k n (pc + 2) lv (.int x :: st) h Q) : E y d k n pc lv (st) h Q := by
  intro p l e R s m args below meth c H locs cells slots mc ms N0 B D ca tys ls c1 c2 c3 c4 c5 c6 c7 c8
  exact lv_iload c1.1 c1.2.1 hd (lm_at c8 hl) (K p l e R s m args below meth c H locs cells slots mc ms N0 B D ca tys ls c1 c2 c3 c4 c5 c6 c7 c8)
theorem E_lload_n {i : Fin 4} {x : Int64} (hd : decode y.2.1 pc = .ok (.lload_n i, 1)) (hl : lv.lookup (i : Nat) = some (.long x)) (K : E y d k n (pc + 1) lv (.long x :: st) h Q) : E y d k n pc lv (st) h Q := by
  intro p l e R s m args below meth c H locs cells slots mc ms N0 B D ca tys ls c1 c2 c3 c4 c5 c6 c7 c8
  exact lv_lload_n c1.1 c1.2.1 hd rfl (lm_at c8 hl) (K p l e R s m args below meth c H locs cells slots mc ms N0 B D ca tys ls c1 c2 c3 c4 c5 c6 c7 c8)
theorem E_lload {i : Nat} {x : Int64} (hd : decode y.2.1 pc = .ok (.lload i, 2)) (hl : lv.lookup i = some (.long x)) (K : E y d k n (pc + 2) lv (.long x :: st) h Q) : E y d k n pc lv (st) h Q := by
  intro p l e R s m args below meth c H locs cells slots mc ms N0 B D ca tys ls c1 c2 c3 c4 c5 c6 c7 c8
  exact lv_lload c1.1 c1.2.1 hd (lm_at c8 hl) (K p l e R s m args below meth c H locs cells slots mc ms N0 B D ca tys ls c1 c2 c3 c4 c5 c6 c7 c8)
theorem E_aload_n {i : Fin 4} {x : Nat} (hd : decode y.2.1 pc = .ok (.aload_n i, 1)) (hl : lv.lookup (i : Nat) = some (.ref x)) (K : E y d k n (pc + 1) lv (.ref x :: st) h Q) : E y d k n pc lv (st) h Q := by
  intro p l e R s m args below meth c H locs cells slots mc ms N0 B D ca tys ls c1 c2 c3 c4 c5 c6 c7 c8
  exact lv_aload_n c1.1 c1.2.1 hd rfl (lm_at c8 hl) (K p l e R s m args below meth c H locs cells slots mc ms N0 B D ca tys ls c1 c2 c3 c4 c5 c6 c7 c8)
theorem E_aload {i : Nat} {x : Nat} (hd : decode y.2.1 pc = .ok (.aload i, 2)) (hl : lv.lookup i = some (.ref x)) (K : E y d k n (pc + 2) lv (.ref x :: st) h Q) : E y d k n pc lv (st) h Q := by
  intro p l e R s m args below meth c H locs cells slots mc ms N0 B D ca tys ls c1 c2 c3 c4 c5 c6 c7 c8
  exact lv_aload c1.1 c1.2.1 hd (lm_at c8 hl) (K p l e R s m args below meth c H locs cells slots mc ms N0 B D ca tys ls c1 c2 c3 c4 c5 c6 c7 c8)
theorem E_aload_nN {i : Fin 4} (hd : decode y.2.1 pc = .ok (.aload_n i, 1)) (hl : lv.lookup (i : Nat) = some .null) (K : E y d k n (pc + 1) lv (.null :: st) h Q) : E y d k n pc lv (st) h Q := by
  intro p l e R s m args below meth c H locs cells slots mc ms N0 B D ca tys ls c1 c2 c3 c4 c5 c6 c7 c8
  exact lv_aload_nN c1.1 c1.2.1 hd rfl (lm_at c8 hl) (K p l e R s m args below meth c H locs cells slots mc ms N0 B D ca tys ls c1 c2 c3 c4 c5 c6 c7 c8)
theorem E_aloadN {i : Nat} (hd : decode y.2.1 pc = .ok (.aload i, 2)) (hl : lv.lookup i = some .null) (K : E y d k n (pc + 2) lv (.null :: st) h Q) : E y d k n pc lv (st) h Q := by
  intro p l e R s m args below meth c H locs cells slots mc ms N0 B D ca tys ls c1 c2 c3 c4 c5 c6 c7 c8
  exact lv_aloadN c1.1 c1.2.1 hd (lm_at c8 hl) (K p l e R s m args below meth c H locs cells slots mc ms N0 B D ca tys ls c1 c2 c3 c4 c5 c6 c7 c8)
theorem E_iadd {a b : Int32} (hd : decode y.2.1 pc = .ok (.iadd, 1))  (K : E y d k n (pc + 1) lv (.int (a + b) :: st) h Q) : E y d k n pc lv (.int b :: .int a :: st) h Q := by
  intro p l e R s m args below meth c H locs cells slots mc ms N0 B D ca tys ls c1 c2 c3 c4 c5 c6 c7 c8
  exact lv_iadd c1.1 c1.2.1 hd (K p l e R s m args below meth c H locs cells slots mc ms N0 B D ca tys ls c1 c2 c3 c4 c5 c6 c7 c8)
theorem E_isub {a b : Int32} (hd : decode y.2.1 pc = .ok (.isub, 1))  (K : E y d k n (pc + 1) lv (.int (a - b) :: st) h Q) : E y d k n pc lv (.int b :: .int a :: st) h Q := by
  intro p l e R s m args below meth c H locs cells slots mc ms N0 B D ca tys ls c1 c2 c3 c4 c5 c6 c7 c8
  exact lv_isub c1.1 c1.2.1 hd (K p l e R s m args below meth c H locs cells slots mc ms N0 B D ca tys ls c1 c2 c3 c4 c5 c6 c7 c8)
theorem E_imul {a b : Int32} (hd : decode y.2.1 pc = .ok (.imul, 1))  (K : E y d k n (pc + 1) lv (.int (a * b) :: st) h Q) : E y d k n pc lv (.int b :: .int a :: st) h Q := by
  intro p l e R s m args below meth c H locs cells slots mc ms N0 B D ca tys ls c1 c2 c3 c4 c5 c6 c7 c8
  exact lv_imul c1.1 c1.2.1 hd (K p l e R s m args below meth c H locs cells slots mc ms N0 B D ca tys ls c1 c2 c3 c4 c5 c6 c7 c8)
theorem E_iand {a b : Int32} (hd : decode y.2.1 pc = .ok (.iand, 1))  (K : E y d k n (pc + 1) lv (.int (a &&& b) :: st) h Q) : E y d k n pc lv (.int b :: .int a :: st) h Q := by
  intro p l e R s m args below meth c H locs cells slots mc ms N0 B D ca tys ls c1 c2 c3 c4 c5 c6 c7 c8
  exact lv_iand c1.1 c1.2.1 hd (K p l e R s m args below meth c H locs cells slots mc ms N0 B D ca tys ls c1 c2 c3 c4 c5 c6 c7 c8)
theorem E_ior {a b : Int32} (hd : decode y.2.1 pc = .ok (.ior, 1))  (K : E y d k n (pc + 1) lv (.int (a ||| b) :: st) h Q) : E y d k n pc lv (.int b :: .int a :: st) h Q := by
  intro p l e R s m args below meth c H locs cells slots mc ms N0 B D ca tys ls c1 c2 c3 c4 c5 c6 c7 c8
  exact lv_ior c1.1 c1.2.1 hd (K p l e R s m args below meth c H locs cells slots mc ms N0 B D ca tys ls c1 c2 c3 c4 c5 c6 c7 c8)
theorem E_idiv {a b : Int32} (hd : decode y.2.1 pc = .ok (.idiv, 1)) (hne : ¬ b = 0) (K : E y d k n (pc + 1) lv (.int (a / b) :: st) h Q) : E y d k n pc lv (.int b :: .int a :: st) h Q := by
  intro p l e R s m args below meth c H locs cells slots mc ms N0 B D ca tys ls c1 c2 c3 c4 c5 c6 c7 c8
  exact lv_idiv c1.1 c1.2.1 hd hne (K p l e R s m args below meth c H locs cells slots mc ms N0 B D ca tys ls c1 c2 c3 c4 c5 c6 c7 c8)
theorem E_irem {a b : Int32} (hd : decode y.2.1 pc = .ok (.irem, 1)) (hne : ¬ b = 0) (K : E y d k n (pc + 1) lv (.int (a - a / b * b) :: st) h Q) : E y d k n pc lv (.int b :: .int a :: st) h Q := by
  intro p l e R s m args below meth c H locs cells slots mc ms N0 B D ca tys ls c1 c2 c3 c4 c5 c6 c7 c8
  exact lv_irem c1.1 c1.2.1 hd hne (K p l e R s m args below meth c H locs cells slots mc ms N0 B D ca tys ls c1 c2 c3 c4 c5 c6 c7 c8)
theorem E_ishl {a b : Int32} (hd : decode y.2.1 pc = .ok (.ishl, 1))  (K : E y d k n (pc + 1) lv (.int (a <<< (b &&& 31)) :: st) h Q) : E y d k n pc lv (.int b :: .int a :: st) h Q := by
  intro p l e R s m args below meth c H locs cells slots mc ms N0 B D ca tys ls c1 c2 c3 c4 c5 c6 c7 c8
  exact lv_ishl c1.1 c1.2.1 hd (K p l e R s m args below meth c H locs cells slots mc ms N0 B D ca tys ls c1 c2 c3 c4 c5 c6 c7 c8)
theorem E_ishr {a b : Int32} (hd : decode y.2.1 pc = .ok (.ishr, 1))  (K : E y d k n (pc + 1) lv (.int (a >>> (b &&& 31)) :: st) h Q) : E y d k n pc lv (.int b :: .int a :: st) h Q := by
  intro p l e R s m args below meth c H locs cells slots mc ms N0 B D ca tys ls c1 c2 c3 c4 c5 c6 c7 c8
  exact lv_ishr c1.1 c1.2.1 hd (K p l e R s m args below meth c H locs cells slots mc ms N0 B D ca tys ls c1 c2 c3 c4 c5 c6 c7 c8)
theorem E_iushr {a b : Int32} (hd : decode y.2.1 pc = .ok (.iushr, 1))  (K : E y d k n (pc + 1) lv (.int ((a.toUInt32 >>> (b.toUInt32 &&& Int32.toUInt32 31)).toInt32) :: st) h Q) : E y d k n pc lv (.int b :: .int a :: st) h Q := by
  intro p l e R s m args below meth c H locs cells slots mc ms N0 B D ca tys ls c1 c2 c3 c4 c5 c6 c7 c8
  exact lv_iushr c1.1 c1.2.1 hd rfl (K p l e R s m args below meth c H locs cells slots mc ms N0 B D ca tys ls c1 c2 c3 c4 c5 c6 c7 c8)
theorem E_ladd {a b : Int64} (hd : decode y.2.1 pc = .ok (.ladd, 1))  (K : E y d k n (pc + 1) lv (.long (a + b) :: st) h Q) : E y d k n pc lv (.long b :: .long a :: st) h Q := by
  intro p l e R s m args below meth c H locs cells slots mc ms N0 B D ca tys ls c1 c2 c3 c4 c5 c6 c7 c8
  exact lv_ladd c1.1 c1.2.1 hd (K p l e R s m args below meth c H locs cells slots mc ms N0 B D ca tys ls c1 c2 c3 c4 c5 c6 c7 c8)
theorem E_lsub {a b : Int64} (hd : decode y.2.1 pc = .ok (.lsub, 1))  (K : E y d k n (pc + 1) lv (.long (a - b) :: st) h Q) : E y d k n pc lv (.long b :: .long a :: st) h Q := by
  intro p l e R s m args below meth c H locs cells slots mc ms N0 B D ca tys ls c1 c2 c3 c4 c5 c6 c7 c8
  exact lv_lsub c1.1 c1.2.1 hd (K p l e R s m args below meth c H locs cells slots mc ms N0 B D ca tys ls c1 c2 c3 c4 c5 c6 c7 c8)
theorem E_lmul {a b : Int64} (hd : decode y.2.1 pc = .ok (.lmul, 1))  (K : E y d k n (pc + 1) lv (.long (a * b) :: st) h Q) : E y d k n pc lv (.long b :: .long a :: st) h Q := by
  intro p l e R s m args below meth c H locs cells slots mc ms N0 B D ca tys ls c1 c2 c3 c4 c5 c6 c7 c8
  exact lv_lmul c1.1 c1.2.1 hd (K p l e R s m args below meth c H locs cells slots mc ms N0 B D ca tys ls c1 c2 c3 c4 c5 c6 c7 c8)
theorem E_ldiv {a b : Int64} (hd : decode y.2.1 pc = .ok (.ldiv, 1)) (hne : ¬ b = 0) (K : E y d k n (pc + 1) lv (.long (a / b) :: st) h Q) : E y d k n pc lv (.long b :: .long a :: st) h Q := by
  intro p l e R s m args below meth c H locs cells slots mc ms N0 B D ca tys ls c1 c2 c3 c4 c5 c6 c7 c8
  exact lv_ldiv c1.1 c1.2.1 hd hne (K p l e R s m args below meth c H locs cells slots mc ms N0 B D ca tys ls c1 c2 c3 c4 c5 c6 c7 c8)
theorem E_lrem {a b : Int64} (hd : decode y.2.1 pc = .ok (.lrem, 1)) (hne : ¬ b = 0) (K : E y d k n (pc + 1) lv (.long (a - a / b * b) :: st) h Q) : E y d k n pc lv (.long b :: .long a :: st) h Q := by
  intro p l e R s m args below meth c H locs cells slots mc ms N0 B D ca tys ls c1 c2 c3 c4 c5 c6 c7 c8
  exact lv_lrem c1.1 c1.2.1 hd hne (K p l e R s m args below meth c H locs cells slots mc ms N0 B D ca tys ls c1 c2 c3 c4 c5 c6 c7 c8)
theorem E_lcmp {a b : Int64} (hd : decode y.2.1 pc = .ok (.lcmp, 1))  (K : E y d k n (pc + 1) lv (.int (lg_cmp a b) :: st) h Q) : E y d k n pc lv (.long b :: .long a :: st) h Q := by
  intro p l e R s m args below meth c H locs cells slots mc ms N0 B D ca tys ls c1 c2 c3 c4 c5 c6 c7 c8
  exact W.lcmp c1.1 c1.2.1 hd (K p l e R s m args below meth c H locs cells slots mc ms N0 B D ca tys ls c1 c2 c3 c4 c5 c6 c7 c8)
theorem E_i2l {a : Int32} (hd : decode y.2.1 pc = .ok (.i2l, 1))  (K : E y d k n (pc + 1) lv (.long a.toInt64 :: st) h Q) : E y d k n pc lv (.int a :: st) h Q := by
  intro p l e R s m args below meth c H locs cells slots mc ms N0 B D ca tys ls c1 c2 c3 c4 c5 c6 c7 c8
  exact lv_i2l c1.1 c1.2.1 hd rfl (K p l e R s m args below meth c H locs cells slots mc ms N0 B D ca tys ls c1 c2 c3 c4 c5 c6 c7 c8)
theorem E_l2i {a : Int64} (hd : decode y.2.1 pc = .ok (.l2i, 1))  (K : E y d k n (pc + 1) lv (.int a.toInt32 :: st) h Q) : E y d k n pc lv (.long a :: st) h Q := by
  intro p l e R s m args below meth c H locs cells slots mc ms N0 B D ca tys ls c1 c2 c3 c4 c5 c6 c7 c8
  exact lv_l2i c1.1 c1.2.1 hd rfl (K p l e R s m args below meth c H locs cells slots mc ms N0 B D ca tys ls c1 c2 c3 c4 c5 c6 c7 c8)
theorem E_i2b {a : Int32} (hd : decode y.2.1 pc = .ok (.i2b, 1))  (K : E y d k n (pc + 1) lv (.int a.toInt8.toInt32 :: st) h Q) : E y d k n pc lv (.int a :: st) h Q := by
  intro p l e R s m args below meth c H locs cells slots mc ms N0 B D ca tys ls c1 c2 c3 c4 c5 c6 c7 c8
  exact lv_i2b c1.1 c1.2.1 hd rfl (K p l e R s m args below meth c H locs cells slots mc ms N0 B D ca tys ls c1 c2 c3 c4 c5 c6 c7 c8)
theorem E_dup {v : Value} (hd : decode y.2.1 pc = .ok (.dup, 1)) (hv : v.category = 1) (K : E y d k n (pc + 1) lv (v :: v :: st) h Q) : E y d k n pc lv (v :: st) h Q := by
  intro p l e R s m args below meth c H locs cells slots mc ms N0 B D ca tys ls c1 c2 c3 c4 c5 c6 c7 c8
  exact lv_dup c1.1 c1.2.1 hd (by rw [tv_cat]; exact hv) (K p l e R s m args below meth c H locs cells slots mc ms N0 B D ca tys ls c1 c2 c3 c4 c5 c6 c7 c8)
theorem E_pop {v : Value} (hd : decode y.2.1 pc = .ok (.pop, 1)) (hv : v.category = 1) (K : E y d k n (pc + 1) lv (st) h Q) : E y d k n pc lv (v :: st) h Q := by
  intro p l e R s m args below meth c H locs cells slots mc ms N0 B D ca tys ls c1 c2 c3 c4 c5 c6 c7 c8
  exact lv_pop c1.1 c1.2.1 hd (by rw [tv_cat]; exact hv) (K p l e R s m args below meth c H locs cells slots mc ms N0 B D ca tys ls c1 c2 c3 c4 c5 c6 c7 c8)
theorem E_dup2 {v w : Value} (hd : decode y.2.1 pc = .ok (.dup2, 1)) (hv : v.category = 1) (hw : w.category = 1) (K : E y d k n (pc + 1) lv (v :: w :: v :: w :: st) h Q) : E y d k n pc lv (v :: w :: st) h Q := by
  intro p l e R s m args below meth c H locs cells slots mc ms N0 B D ca tys ls c1 c2 c3 c4 c5 c6 c7 c8
  exact lv_dup2_11 c1.1 c1.2.1 hd (by rw [tv_cat]; exact hv) (by rw [tv_cat]; exact hw) (K p l e R s m args below meth c H locs cells slots mc ms N0 B D ca tys ls c1 c2 c3 c4 c5 c6 c7 c8)
theorem E_istore_n {i : Fin 4} {x : Int32} {lv' : List (Nat × Value)} (hd : decode y.2.1 pc = .ok (.istore_n i, 1)) (hn : (i : Nat) < y.2.2.1) (hl : ((i : Nat), Value.int x) :: lv.filter (fun q => !(q.1 == (i : Nat)) && !(q.1 + 1 == (i : Nat) && q.2.category == 2)) = lv') (K : E y d k n (pc + 1) lv' st h Q) : E y d k n pc lv (Value.int x :: st) h Q := by
  intro p l e R s m args below meth c H locs cells slots mc ms N0 B D ca tys ls c1 c2 c3 c4 c5 c6 c7 c8
  subst hl
  exact lv_istore_n c1.1 c1.2.1 hd rfl c8 hn (by rw [lm_filter]; rfl) (fun ls c8 => K p l e R s m args below meth c H locs cells slots mc ms N0 B D ca tys ls c1 c2 c3 c4 c5 c6 c7 c8)
theorem E_istore {i : Nat} {x : Int32} {lv' : List (Nat × Value)} (hd : decode y.2.1 pc = .ok (.istore i, 2)) (hn : i < y.2.2.1) (hl : (i, Value.int x) :: lv.filter (fun q => !(q.1 == i) && !(q.1 + 1 == i && q.2.category == 2)) = lv') (K : E y d k n (pc + 2) lv' st h Q) : E y d k n pc lv (Value.int x :: st) h Q := by
  intro p l e R s m args below meth c H locs cells slots mc ms N0 B D ca tys ls c1 c2 c3 c4 c5 c6 c7 c8
  subst hl
  exact lv_istore c1.1 c1.2.1 hd  c8 hn (by rw [lm_filter]; rfl) (fun ls c8 => K p l e R s m args below meth c H locs cells slots mc ms N0 B D ca tys ls c1 c2 c3 c4 c5 c6 c7 c8)
theorem E_lstore_n {i : Fin 4} {x : Int64} {lv' : List (Nat × Value)} (hd : decode y.2.1 pc = .ok (.lstore_n i, 1)) (hn : (i : Nat) + 1 < y.2.2.1) (hl : ((i : Nat), Value.long x) :: lv.filter (fun q => !(q.1 == (i : Nat)) && (!(q.1 == (i : Nat) + 1) && !(q.1 + 1 == (i : Nat) && q.2.category == 2))) = lv') (K : E y d k n (pc + 1) lv' st h Q) : E y d k n pc lv (Value.long x :: st) h Q := by
  intro p l e R s m args below meth c H locs cells slots mc ms N0 B D ca tys ls c1 c2 c3 c4 c5 c6 c7 c8
  subst hl
  exact lv_lstore_n c1.1 c1.2.1 hd rfl c8 hn (by rw [lm_filter2]; rfl) (fun ls c8 => K p l e R s m args below meth c H locs cells slots mc ms N0 B D ca tys ls c1 c2 c3 c4 c5 c6 c7 c8)
theorem E_lstore {i : Nat} {x : Int64} {lv' : List (Nat × Value)} (hd : decode y.2.1 pc = .ok (.lstore i, 2)) (hn : i + 1 < y.2.2.1) (hl : (i, Value.long x) :: lv.filter (fun q => !(q.1 == i) && (!(q.1 == i + 1) && !(q.1 + 1 == i && q.2.category == 2))) = lv') (K : E y d k n (pc + 2) lv' st h Q) : E y d k n pc lv (Value.long x :: st) h Q := by
  intro p l e R s m args below meth c H locs cells slots mc ms N0 B D ca tys ls c1 c2 c3 c4 c5 c6 c7 c8
  subst hl
  exact lv_lstore c1.1 c1.2.1 hd  c8 hn (by rw [lm_filter2]; rfl) (fun ls c8 => K p l e R s m args below meth c H locs cells slots mc ms N0 B D ca tys ls c1 c2 c3 c4 c5 c6 c7 c8)
theorem E_astore_n {i : Fin 4} {x : Nat} {lv' : List (Nat × Value)} (hd : decode y.2.1 pc = .ok (.astore_n i, 1)) (hn : (i : Nat) < y.2.2.1) (hl : ((i : Nat), Value.ref x) :: lv.filter (fun q => !(q.1 == (i : Nat)) && !(q.1 + 1 == (i : Nat) && q.2.category == 2)) = lv') (K : E y d k n (pc + 1) lv' st h Q) : E y d k n pc lv (Value.ref x :: st) h Q := by
  intro p l e R s m args below meth c H locs cells slots mc ms N0 B D ca tys ls c1 c2 c3 c4 c5 c6 c7 c8
  subst hl
  exact lv_astore_n c1.1 c1.2.1 hd rfl c8 hn (by rw [lm_filter]; rfl) (fun ls c8 => K p l e R s m args below meth c H locs cells slots mc ms N0 B D ca tys ls c1 c2 c3 c4 c5 c6 c7 c8)
theorem E_astore {i : Nat} {x : Nat} {lv' : List (Nat × Value)} (hd : decode y.2.1 pc = .ok (.astore i, 2)) (hn : i < y.2.2.1) (hl : (i, Value.ref x) :: lv.filter (fun q => !(q.1 == i) && !(q.1 + 1 == i && q.2.category == 2)) = lv') (K : E y d k n (pc + 2) lv' st h Q) : E y d k n pc lv (Value.ref x :: st) h Q := by
  intro p l e R s m args below meth c H locs cells slots mc ms N0 B D ca tys ls c1 c2 c3 c4 c5 c6 c7 c8
  subst hl
  exact lv_astore c1.1 c1.2.1 hd  c8 hn (by rw [lm_filter]; rfl) (fun ls c8 => K p l e R s m args below meth c H locs cells slots mc ms N0 B D ca tys ls c1 c2 c3 c4 c5 c6 c7 c8)
theorem E_astore_nN {i : Fin 4} {lv' : List (Nat × Value)} (hd : decode y.2.1 pc = .ok (.astore_n i, 1)) (hn : (i : Nat) < y.2.2.1) (hl : ((i : Nat), Value.null) :: lv.filter (fun q => !(q.1 == (i : Nat)) && !(q.1 + 1 == (i : Nat) && q.2.category == 2)) = lv') (K : E y d k n (pc + 1) lv' st h Q) : E y d k n pc lv (Value.null :: st) h Q := by
  intro p l e R s m args below meth c H locs cells slots mc ms N0 B D ca tys ls c1 c2 c3 c4 c5 c6 c7 c8
  subst hl
  exact lv_astore_nN c1.1 c1.2.1 hd rfl c8 hn (by rw [lm_filter]; rfl) (fun ls c8 => K p l e R s m args below meth c H locs cells slots mc ms N0 B D ca tys ls c1 c2 c3 c4 c5 c6 c7 c8)
theorem E_astoreN {i : Nat} {lv' : List (Nat × Value)} (hd : decode y.2.1 pc = .ok (.astore i, 2)) (hn : i < y.2.2.1) (hl : (i, Value.null) :: lv.filter (fun q => !(q.1 == i) && !(q.1 + 1 == i && q.2.category == 2)) = lv') (K : E y d k n (pc + 2) lv' st h Q) : E y d k n pc lv (Value.null :: st) h Q := by
  intro p l e R s m args below meth c H locs cells slots mc ms N0 B D ca tys ls c1 c2 c3 c4 c5 c6 c7 c8
  subst hl
  exact lv_astoreN c1.1 c1.2.1 hd  c8 hn (by rw [lm_filter]; rfl) (fun ls c8 => K p l e R s m args below meth c H locs cells slots mc ms N0 B D ca tys ls c1 c2 c3 c4 c5 c6 c7 c8)
theorem E_iinc {i : Nat} {z : Int} {x v : Int32} {lv' : List (Nat × Value)} (hd : decode y.2.1 pc = .ok (.iinc i z, 3)) (hg : lv.lookup i = some (.int x)) (hv : x + Int32.ofInt z = v) (hn : i < y.2.2.1) (hl : (i, Value.int v) :: lv.filter (fun q => !(q.1 == i) && !(q.1 + 1 == i && q.2.category == 2)) = lv') (K : E y d k n (pc + 3) lv' st h Q) : E y d k n pc lv st h Q := by
  intro p l e R s m args below meth c H locs cells slots mc ms N0 B D ca tys ls c1 c2 c3 c4 c5 c6 c7 c8
  subst hl
  have hg2 : ls[i]? = some (.val (.int x)) := lm_at c8 hg
  have c9 : lv_has ls y.2.2.1 ((i, .int x) :: lm (adr N0 B) lv) := ⟨c8.1, c8.2.1, fun q hq => by
    rcases List.mem_cons.mp hq with rfl | h9
    · exact hg2
    · exact c8.2.2 q h9⟩
  refine lv_iinc (k := 0) c1.1 c1.2.1 hd c9 rfl hv hn (lv' := lm (adr N0 B) ((i, Value.int v) :: lv.filter (fun q => !(q.1 == i) && !(q.1 + 1 == i && q.2.category == 2)))) ?_ (fun ls c8 => K p l e R s m args below meth c H locs cells slots mc ms N0 B D ca tys ls c1 c2 c3 c4 c5 c6 c7 c8)
  rw [List.filter_cons_of_neg (by simp), lm_filter]
  rfl
theorem E_if_eq {x : Int32} {off : Int} (tgt : Nat) (hd : decode y.2.1 pc = .ok (.ifCond .eq off, 3)) (ht : (pc : Int) + off = (tgt : Int)) (kt : x = 0 → E y d k n tgt lv st h Q) (kf : ¬ x = 0 → E y d k n (pc + 3) lv st h Q) : E y d k n pc lv (.int x :: st) h Q := by
  intro p l e R s m args below meth c H locs cells slots mc ms N0 B D ca tys ls c1 c2 c3 c4 c5 c6 c7 c8
  exact lv_if_eq c1.1 c1.2.1 hd ht (fun q => kt q p l e R s m args below meth c H locs cells slots mc ms N0 B D ca tys ls c1 c2 c3 c4 c5 c6 c7 c8) (fun q => kf q p l e R s m args below meth c H locs cells slots mc ms N0 B D ca tys ls c1 c2 c3 c4 c5 c6 c7 c8)
theorem E_icmp_eq {x y1 : Int32} {off : Int} (tgt : Nat) (hd : decode y.2.1 pc = .ok (.if_icmp .eq off, 3)) (ht : (pc : Int) + off = (tgt : Int)) (kt : x = y1 → E y d k n tgt lv st h Q) (kf : ¬ x = y1 → E y d k n (pc + 3) lv st h Q) : E y d k n pc lv (.int y1 :: .int x :: st) h Q := by
  intro p l e R s m args below meth c H locs cells slots mc ms N0 B D ca tys ls c1 c2 c3 c4 c5 c6 c7 c8
  exact lv_icmp_eq c1.1 c1.2.1 hd ht (fun q => kt q p l e R s m args below meth c H locs cells slots mc ms N0 B D ca tys ls c1 c2 c3 c4 c5 c6 c7 c8) (fun q => kf q p l e R s m args below meth c H locs cells slots mc ms N0 B D ca tys ls c1 c2 c3 c4 c5 c6 c7 c8)
theorem E_if_ne {x : Int32} {off : Int} (tgt : Nat) (hd : decode y.2.1 pc = .ok (.ifCond .ne off, 3)) (ht : (pc : Int) + off = (tgt : Int)) (kt : ¬ x = 0 → E y d k n tgt lv st h Q) (kf : x = 0 → E y d k n (pc + 3) lv st h Q) : E y d k n pc lv (.int x :: st) h Q := by
  intro p l e R s m args below meth c H locs cells slots mc ms N0 B D ca tys ls c1 c2 c3 c4 c5 c6 c7 c8
  exact lv_if_ne c1.1 c1.2.1 hd ht (fun q => kt q p l e R s m args below meth c H locs cells slots mc ms N0 B D ca tys ls c1 c2 c3 c4 c5 c6 c7 c8) (fun q => kf q p l e R s m args below meth c H locs cells slots mc ms N0 B D ca tys ls c1 c2 c3 c4 c5 c6 c7 c8)
theorem E_icmp_ne {x y1 : Int32} {off : Int} (tgt : Nat) (hd : decode y.2.1 pc = .ok (.if_icmp .ne off, 3)) (ht : (pc : Int) + off = (tgt : Int)) (kt : ¬ x = y1 → E y d k n tgt lv st h Q) (kf : x = y1 → E y d k n (pc + 3) lv st h Q) : E y d k n pc lv (.int y1 :: .int x :: st) h Q := by
  intro p l e R s m args below meth c H locs cells slots mc ms N0 B D ca tys ls c1 c2 c3 c4 c5 c6 c7 c8
  exact lv_icmp_ne c1.1 c1.2.1 hd ht (fun q => kt q p l e R s m args below meth c H locs cells slots mc ms N0 B D ca tys ls c1 c2 c3 c4 c5 c6 c7 c8) (fun q => kf q p l e R s m args below meth c H locs cells slots mc ms N0 B D ca tys ls c1 c2 c3 c4 c5 c6 c7 c8)
theorem E_if_lt {x : Int32} {off : Int} (tgt : Nat) (hd : decode y.2.1 pc = .ok (.ifCond .lt off, 3)) (ht : (pc : Int) + off = (tgt : Int)) (kt : x < 0 → E y d k n tgt lv st h Q) (kf : ¬ x < 0 → E y d k n (pc + 3) lv st h Q) : E y d k n pc lv (.int x :: st) h Q := by
  intro p l e R s m args below meth c H locs cells slots mc ms N0 B D ca tys ls c1 c2 c3 c4 c5 c6 c7 c8
  exact lv_if_lt c1.1 c1.2.1 hd ht (fun q => kt q p l e R s m args below meth c H locs cells slots mc ms N0 B D ca tys ls c1 c2 c3 c4 c5 c6 c7 c8) (fun q => kf q p l e R s m args below meth c H locs cells slots mc ms N0 B D ca tys ls c1 c2 c3 c4 c5 c6 c7 c8)
theorem E_icmp_lt {x y1 : Int32} {off : Int} (tgt : Nat) (hd : decode y.2.1 pc = .ok (.if_icmp .lt off, 3)) (ht : (pc : Int) + off = (tgt : Int)) (kt : x < y1 → E y d k n tgt lv st h Q) (kf : ¬ x < y1 → E y d k n (pc + 3) lv st h Q) : E y d k n pc lv (.int y1 :: .int x :: st) h Q := by
  intro p l e R s m args below meth c H locs cells slots mc ms N0 B D ca tys ls c1 c2 c3 c4 c5 c6 c7 c8
  exact lv_icmp_lt c1.1 c1.2.1 hd ht (fun q => kt q p l e R s m args below meth c H locs cells slots mc ms N0 B D ca tys ls c1 c2 c3 c4 c5 c6 c7 c8) (fun q => kf q p l e R s m args below meth c H locs cells slots mc ms N0 B D ca tys ls c1 c2 c3 c4 c5 c6 c7 c8)
theorem E_if_ge {x : Int32} {off : Int} (tgt : Nat) (hd : decode y.2.1 pc = .ok (.ifCond .ge off, 3)) (ht : (pc : Int) + off = (tgt : Int)) (kt : 0 ≤ x → E y d k n tgt lv st h Q) (kf : ¬ 0 ≤ x → E y d k n (pc + 3) lv st h Q) : E y d k n pc lv (.int x :: st) h Q := by
  intro p l e R s m args below meth c H locs cells slots mc ms N0 B D ca tys ls c1 c2 c3 c4 c5 c6 c7 c8
  exact lv_if_ge c1.1 c1.2.1 hd ht (fun q => kt q p l e R s m args below meth c H locs cells slots mc ms N0 B D ca tys ls c1 c2 c3 c4 c5 c6 c7 c8) (fun q => kf q p l e R s m args below meth c H locs cells slots mc ms N0 B D ca tys ls c1 c2 c3 c4 c5 c6 c7 c8)
theorem E_icmp_ge {x y1 : Int32} {off : Int} (tgt : Nat) (hd : decode y.2.1 pc = .ok (.if_icmp .ge off, 3)) (ht : (pc : Int) + off = (tgt : Int)) (kt : y1 ≤ x → E y d k n tgt lv st h Q) (kf : ¬ y1 ≤ x → E y d k n (pc + 3) lv st h Q) : E y d k n pc lv (.int y1 :: .int x :: st) h Q := by
  intro p l e R s m args below meth c H locs cells slots mc ms N0 B D ca tys ls c1 c2 c3 c4 c5 c6 c7 c8
  exact lv_icmp_ge c1.1 c1.2.1 hd ht (fun q => kt q p l e R s m args below meth c H locs cells slots mc ms N0 B D ca tys ls c1 c2 c3 c4 c5 c6 c7 c8) (fun q => kf q p l e R s m args below meth c H locs cells slots mc ms N0 B D ca tys ls c1 c2 c3 c4 c5 c6 c7 c8)
theorem E_if_gt {x : Int32} {off : Int} (tgt : Nat) (hd : decode y.2.1 pc = .ok (.ifCond .gt off, 3)) (ht : (pc : Int) + off = (tgt : Int)) (kt : 0 < x → E y d k n tgt lv st h Q) (kf : ¬ 0 < x → E y d k n (pc + 3) lv st h Q) : E y d k n pc lv (.int x :: st) h Q := by
  intro p l e R s m args below meth c H locs cells slots mc ms N0 B D ca tys ls c1 c2 c3 c4 c5 c6 c7 c8
  exact lv_if_gt c1.1 c1.2.1 hd ht (fun q => kt q p l e R s m args below meth c H locs cells slots mc ms N0 B D ca tys ls c1 c2 c3 c4 c5 c6 c7 c8) (fun q => kf q p l e R s m args below meth c H locs cells slots mc ms N0 B D ca tys ls c1 c2 c3 c4 c5 c6 c7 c8)
theorem E_icmp_gt {x y1 : Int32} {off : Int} (tgt : Nat) (hd : decode y.2.1 pc = .ok (.if_icmp .gt off, 3)) (ht : (pc : Int) + off = (tgt : Int)) (kt : y1 < x → E y d k n tgt lv st h Q) (kf : ¬ y1 < x → E y d k n (pc + 3) lv st h Q) : E y d k n pc lv (.int y1 :: .int x :: st) h Q := by
  intro p l e R s m args below meth c H locs cells slots mc ms N0 B D ca tys ls c1 c2 c3 c4 c5 c6 c7 c8
  exact lv_icmp_gt c1.1 c1.2.1 hd ht (fun q => kt q p l e R s m args below meth c H locs cells slots mc ms N0 B D ca tys ls c1 c2 c3 c4 c5 c6 c7 c8) (fun q => kf q p l e R s m args below meth c H locs cells slots mc ms N0 B D ca tys ls c1 c2 c3 c4 c5 c6 c7 c8)
theorem E_if_le {x : Int32} {off : Int} (tgt : Nat) (hd : decode y.2.1 pc = .ok (.ifCond .le off, 3)) (ht : (pc : Int) + off = (tgt : Int)) (kt : x ≤ 0 → E y d k n tgt lv st h Q) (kf : ¬ x ≤ 0 → E y d k n (pc + 3) lv st h Q) : E y d k n pc lv (.int x :: st) h Q := by
  intro p l e R s m args below meth c H locs cells slots mc ms N0 B D ca tys ls c1 c2 c3 c4 c5 c6 c7 c8
  exact lv_if_le c1.1 c1.2.1 hd ht (fun q => kt q p l e R s m args below meth c H locs cells slots mc ms N0 B D ca tys ls c1 c2 c3 c4 c5 c6 c7 c8) (fun q => kf q p l e R s m args below meth c H locs cells slots mc ms N0 B D ca tys ls c1 c2 c3 c4 c5 c6 c7 c8)
theorem E_icmp_le {x y1 : Int32} {off : Int} (tgt : Nat) (hd : decode y.2.1 pc = .ok (.if_icmp .le off, 3)) (ht : (pc : Int) + off = (tgt : Int)) (kt : x ≤ y1 → E y d k n tgt lv st h Q) (kf : ¬ x ≤ y1 → E y d k n (pc + 3) lv st h Q) : E y d k n pc lv (.int y1 :: .int x :: st) h Q := by
  intro p l e R s m args below meth c H locs cells slots mc ms N0 B D ca tys ls c1 c2 c3 c4 c5 c6 c7 c8
  exact lv_icmp_le c1.1 c1.2.1 hd ht (fun q => kt q p l e R s m args below meth c H locs cells slots mc ms N0 B D ca tys ls c1 c2 c3 c4 c5 c6 c7 c8) (fun q => kf q p l e R s m args below meth c H locs cells slots mc ms N0 B D ca tys ls c1 c2 c3 c4 c5 c6 c7 c8)
theorem E_goto {off : Int} (tgt : Nat) (hd : decode y.2.1 pc = .ok (.goto off, 3)) (ht : (pc : Int) + off = (tgt : Int)) (K : E y d k n tgt lv st h Q) : E y d k n pc lv st h Q := by
  intro p l e R s m args below meth c H locs cells slots mc ms N0 B D ca tys ls c1 c2 c3 c4 c5 c6 c7 c8
  exact lv_goto c1.1 c1.2.1 hd ht (K p l e R s m args below meth c H locs cells slots mc ms N0 B D ca tys ls c1 c2 c3 c4 c5 c6 c7 c8)
theorem E_nonnull {x : Nat} {off : Int} (tgt : Nat) (hd : decode y.2.1 pc = .ok (.ifnonnull off, 3)) (ht : (pc : Int) + off = (tgt : Int)) (K : E y d k n tgt lv st h Q) : E y d k n pc lv (.ref x :: st) h Q := by
  intro p l e R s m args below meth c H locs cells slots mc ms N0 B D ca tys ls c1 c2 c3 c4 c5 c6 c7 c8
  exact lv_ifnonnull c1.1 c1.2.1 hd ht (K p l e R s m args below meth c H locs cells slots mc ms N0 B D ca tys ls c1 c2 c3 c4 c5 c6 c7 c8)
theorem E_nonnullN {off : Int} (hd : decode y.2.1 pc = .ok (.ifnonnull off, 3)) (K : E y d k n (pc + 3) lv st h Q) : E y d k n pc lv (.null :: st) h Q := by
  intro p l e R s m args below meth c H locs cells slots mc ms N0 B D ca tys ls c1 c2 c3 c4 c5 c6 c7 c8
  exact lv_ifnonnullN c1.1 c1.2.1 hd (K p l e R s m args below meth c H locs cells slots mc ms N0 B D ca tys ls c1 c2 c3 c4 c5 c6 c7 c8)
theorem E_ifnull {x : Nat} {off : Int} (hd : decode y.2.1 pc = .ok (.ifnull off, 3)) (K : E y d k n (pc + 3) lv st h Q) : E y d k n pc lv (.ref x :: st) h Q := by
  intro p l e R s m args below meth c H locs cells slots mc ms N0 B D ca tys ls c1 c2 c3 c4 c5 c6 c7 c8
  exact lv_ifnull c1.1 c1.2.1 hd (K p l e R s m args below meth c H locs cells slots mc ms N0 B D ca tys ls c1 c2 c3 c4 c5 c6 c7 c8)
theorem E_ifnullN {off : Int} (tgt : Nat) (hd : decode y.2.1 pc = .ok (.ifnull off, 3)) (ht : (pc : Int) + off = (tgt : Int)) (K : E y d k n tgt lv st h Q) : E y d k n pc lv (.null :: st) h Q := by
  intro p l e R s m args below meth c H locs cells slots mc ms N0 B D ca tys ls c1 c2 c3 c4 c5 c6 c7 c8
  exact lv_ifnullN c1.1 c1.2.1 hd ht (K p l e R s m args below meth c H locs cells slots mc ms N0 B D ca tys ls c1 c2 c3 c4 c5 c6 c7 c8)
theorem E_tableOut {dflt lo hi : Int} {offs : Array Int} {len : Nat} {x : Int32} (tgt : Nat) (hd : decode y.2.1 pc = .ok (.tableswitch dflt lo hi offs, len)) (hx : x.toInt < lo ∨ hi < x.toInt) (ht : (pc : Int) + dflt = (tgt : Int)) (K : E y d k n tgt lv st h Q) : E y d k n pc lv (.int x :: st) h Q := by
  intro p l e R s m args below meth c H locs cells slots mc ms N0 B D ca tys ls c1 c2 c3 c4 c5 c6 c7 c8
  exact lv_tableOut c1.1 c1.2.1 hd hx ht (K p l e R s m args below meth c H locs cells slots mc ms N0 B D ca tys ls c1 c2 c3 c4 c5 c6 c7 c8)
theorem E_tableIn {dflt lo hi : Int} {offs : Array Int} {len : Nat} {x : Int32} {off : Int} (tgt : Nat) (hd : decode y.2.1 pc = .ok (.tableswitch dflt lo hi offs, len)) (h1 : ¬ x.toInt < lo) (h2 : ¬ hi < x.toInt) (ho : offs[(x.toInt - lo).toNat]? = some off) (ht : (pc : Int) + off = (tgt : Int)) (K : E y d k n tgt lv st h Q) : E y d k n pc lv (.int x :: st) h Q := by
  intro p l e R s m args below meth c H locs cells slots mc ms N0 B D ca tys ls c1 c2 c3 c4 c5 c6 c7 c8
  exact lv_tableIn c1.1 c1.2.1 hd h1 h2 ho ht (K p l e R s m args below meth c H locs cells slots mc ms N0 B D ca tys ls c1 c2 c3 c4 c5 c6 c7 c8)
theorem E_ldc {idx : Nat} {v : Int32} (hd : decode y.2.1 pc = .ok (.ldc idx, 2)) (hc : Cond.constant y.1.cls idx v ∈ GT) (K : E y d k n (pc + 2) lv (.int v :: st) h Q) : E y d k n pc lv st h Q := by
  intro p l e R s m args below meth c H locs cells slots mc ms N0 B D ca tys ls c1 c2 c3 c4 c5 c6 c7 c8
  exact lv_ldc c1.1 c1.2.1 c1.2.2.2.2.1 (c1.2.2.2.2.2.1 _ hc) hd (K p l e R s m args below meth c H locs cells slots mc ms N0 B D ca tys ls c1 c2 c3 c4 c5 c6 c7 c8)
theorem E_ldc2 {idx : Nat} {v : Int64} (hd : decode y.2.1 pc = .ok (.ldc2_w idx, 3)) (hc : Cond.constantLong y.1.cls idx v ∈ GT) (K : E y d k n (pc + 3) lv (.long v :: st) h Q) : E y d k n pc lv st h Q := by
  intro p l e R s m args below meth c H locs cells slots mc ms N0 B D ca tys ls c1 c2 c3 c4 c5 c6 c7 c8
  exact lv_ldc2 c1.1 c1.2.1 c1.2.2.2.2.1 (c1.2.2.2.2.2.1 _ hc) hd (K p l e R s m args below meth c H locs cells slots mc ms N0 B D ca tys ls c1 c2 c3 c4 c5 c6 c7 c8)
theorem E_iret {v : Int32} {ty : FieldType} (hd : decode y.2.1 pc = .ok (.ireturn, 1)) (hr : y.2.2.2 = some ty) (hn : narrow ty (.int v) = .int v) (K : Q (some (Value.int v)) h) : E y d k n pc lv ([.int v]) h Q := by
  intro p l e R s m args below meth c H locs cells slots mc ms N0 B D ca tys ls c1 c2 c3 c4 c5 c6 c7 c8
  have hq : ∀ t : State, t.heap = H → s.WarmedH t.vm → EQ N0 B D Q args s (.returned ((some (Value.int v)).map (tv (adr N0 B)))) t := fun t ht hW => ⟨(some (Value.int v)), h, ca, tys, rfl, K, by rw [ht]; exact c7.moved hW.alike, c6.F ht⟩
  refine W.widen (k := mc) (n := ms) (by omega) (by omega) ?_
  exact W.zret (hlocks := c1.2.2.2.2.2.2.1) c1.1 c1.2.1 (c1.2.2.1.trans hr) hn hq c6.2.2 hd
theorem E_lret {v : Int64} (hd : decode y.2.1 pc = .ok (.lreturn, 1)) (hr : y.2.2.2 = some .long)  (K : Q (some (Value.long v)) h) : E y d k n pc lv ([.long v]) h Q := by
  intro p l e R s m args below meth c H locs cells slots mc ms N0 B D ca tys ls c1 c2 c3 c4 c5 c6 c7 c8
  have hq : ∀ t : State, t.heap = H → s.WarmedH t.vm → EQ N0 B D Q args s (.returned ((some (Value.long v)).map (tv (adr N0 B)))) t := fun t ht hW => ⟨(some (Value.long v)), h, ca, tys, rfl, K, by rw [ht]; exact c7.moved hW.alike, c6.F ht⟩
  refine W.widen (k := mc) (n := ms) (by omega) (by omega) ?_
  exact W.lret (hlocks := c1.2.2.2.2.2.2.1) c1.1 c1.2.1 (c1.2.2.1.trans hr) hq c6.2.2 hd
theorem E_vret  (hd : decode y.2.1 pc = .ok (.return_, 1)) (hr : y.2.2.2 = none)  (K : Q (none : Option Value) h) : E y d k n pc lv ([]) h Q := by
  intro p l e R s m args below meth c H locs cells slots mc ms N0 B D ca tys ls c1 c2 c3 c4 c5 c6 c7 c8
  have hq : ∀ t : State, t.heap = H → s.WarmedH t.vm → EQ N0 B D Q args s (.returned ((none : Option Value).map (tv (adr N0 B)))) t := fun t ht hW => ⟨(none : Option Value), h, ca, tys, rfl, K, by rw [ht]; exact c7.moved hW.alike, c6.F ht⟩
  refine W.widen (k := mc) (n := ms) (by omega) (by omega) ?_
  exact W.vret (hlocks := c1.2.2.2.2.2.2.1) c1.1 c1.2.1 (c1.2.2.1.trans hr) hq c6.2.2 hd
theorem E_aret {v : Nat} {rt : FieldType} (hd : decode y.2.1 pc = .ok (.areturn, 1)) (hr : y.2.2.2 = some rt) (hrt : (∃ nm, rt = .object nm) ∨ ∃ t, rt = .array t) (K : Q (some (Value.ref v)) h) : E y d k n pc lv ([.ref v]) h Q := by
  intro p l e R s m args below meth c H locs cells slots mc ms N0 B D ca tys ls c1 c2 c3 c4 c5 c6 c7 c8
  have hq : ∀ t : State, t.heap = H → s.WarmedH t.vm → EQ N0 B D Q args s (.returned ((some (Value.ref v)).map (tv (adr N0 B)))) t := fun t ht hW => ⟨(some (Value.ref v)), h, ca, tys, rfl, K, by rw [ht]; exact c7.moved hW.alike, c6.F ht⟩
  refine W.widen (k := mc) (n := ms) (by omega) (by omega) ?_
  exact W.aret (hlocks := c1.2.2.2.2.2.2.1) c1.1 c1.2.1 (c1.2.2.1.trans hr) hrt (Or.inr ⟨_, rfl⟩) hq c6.2.2 hd
theorem E_aretN {rt : FieldType} (hd : decode y.2.1 pc = .ok (.areturn, 1)) (hr : y.2.2.2 = some rt) (hrt : (∃ nm, rt = .object nm) ∨ ∃ t, rt = .array t) (K : Q (some Value.null) h) : E y d k n pc lv ([.null]) h Q := by
  intro p l e R s m args below meth c H locs cells slots mc ms N0 B D ca tys ls c1 c2 c3 c4 c5 c6 c7 c8
  have hq : ∀ t : State, t.heap = H → s.WarmedH t.vm → EQ N0 B D Q args s (.returned ((some Value.null).map (tv (adr N0 B)))) t := fun t ht hW => ⟨(some Value.null), h, ca, tys, rfl, K, by rw [ht]; exact c7.moved hW.alike, c6.F ht⟩
  refine W.widen (k := mc) (n := ms) (by omega) (by omega) ?_
  exact W.aret (hlocks := c1.2.2.2.2.2.2.1) c1.1 c1.2.1 (c1.2.2.1.trans hr) hrt (Or.inl rfl) hq c6.2.2 hd
end ER
end
section
/-! THE HEAP'S RULES: fields, arrays, new cells -/
section EH
variable {y : MI} {d k n pc : Nat} {lv : List (Nat × Value)} {st : List Value} {h : HP} {Q : Option Value → HP → Prop}
theorem HI.set {N0 : Nat} {B : Nat → Nat} {D : va_G} {ca : Nat → ClassId} {tys : List (ClassId × FieldType)} {h : HP} {U : State} {H H1 : Heap} {i : Nat} {c0 c : PCell} (hI : HI N0 B D ca tys h U H) (hi : 3 ≤ i) (hc : h[i]? = some c0) (hat : va_at D CL (adr N0 B i, te (adr N0 B) (ca i) c) H1) (hz : H1.size = H.size) (oq : ∀ q, q ≠ adr N0 B i → H1[q]? = H[q]?) (hk : ∀ (k : Nat) (x : vp_A), c = .inl (k, x) → ∃ x0, c0 = .inl (k, x0)) : HI N0 B D ca tys (h.set i c) U H1 := by
  obtain ⟨h1, h2, h3, h4, h5, h6⟩ := hI
  refine ⟨h1, ?_, by rw [hz, List.length_set]; exact h3, by rw [List.length_set]; exact h4, fun j k' x hj h3' => ?_, h6.kept (fun j hj => ?_) (fun a ha hn => oq a (fun e => hn ?_))⟩
  · rw [← wd_set hi]
    exact h2.set wd_D (wd_get hi hc) hat oq
  · by_cases hij : i = j
    · subst hij
      rw [List.getElem?_set_self (List.getElem?_eq_some_iff.mp hc).1] at hj
      obtain ⟨x0, e0⟩ := hk k' x (Option.some.inj hj)
      exact h5 i k' x0 (by rw [hc, e0]) hi
    · rw [List.getElem?_set_ne hij] at hj
      exact h5 j k' x hj h3'
  · rw [List.getElem?_set_ne (by omega)]
  · rw [e, adr_ge hi]
    exact Nat.le_add_right _ _
theorem HI.push {N0 : Nat} {B : Nat → Nat} {D : va_G} {ca : Nat → ClassId} {tys tys' : List (ClassId × FieldType)} {h : HP} {U : State} {H H1 : Heap} {c : PCell} {cA : ClassId} (hI : HI N0 B D ca tys h U H) (hat : va_at D CL (H.size, te (adr N0 B) cA c) H1) (hz : H1.size = H.size + 1) (oq : ∀ q, q < H.size → H1[q]? = H[q]?) (hK : va_K D CL tys' U) (hsub : ∀ (t : Nat) (x : ClassId × FieldType), tys[t]? = some x → tys'[t]? = some x) (hk : ∀ (k : Nat) (x : vp_A), c = .inl (k, x) → k < 5 ∧ ∃ t : Nat, tys'[t]? = some (cA, kty k)) : HI N0 B D (fun j => if j = h.length then cA else ca j) tys' (h ++ [c]) U H1 := by
  obtain ⟨h1, h2, h3, h4, h5, h6⟩ := hI
  have hsz : N0 + (h.length - 3) = H.size := by omega
  refine ⟨hK, ?_, by rw [hz, List.length_append]; simp; omega, by rw [List.length_append]; omega, fun j k' x hj h3' => ?_, h6.kept (fun j hj => ?_) (fun a ha hn => oq a ha)⟩
  · rw [wd_push (ca := ca) h4 (fun i hi => if_neg (by omega)), if_pos rfl, hsz]
    refine (h2.kept fun j q hq => oq q.1 (h2 j q hq).lt).app (fun j q hq => ?_)
    have hz : j < 1 := (List.getElem?_eq_some_iff.mp hq).1
    rw [show j = 0 by omega] at hq
    cases hq
    exact hat
  · by_cases hl : j < h.length
    · rw [List.getElem?_append_left hl] at hj
      obtain ⟨a, t, b⟩ := h5 j k' x hj h3'
      dsimp only
      rw [if_neg (by omega)]
      exact ⟨a, t, hsub t _ b⟩
    · rw [List.getElem?_append_right (by omega)] at hj
      have hz : j - h.length < 1 := (List.getElem?_eq_some_iff.mp hj).1
      have hjl : j = h.length := by omega
      subst hjl
      rw [Nat.sub_self] at hj
      dsimp only
      rw [if_pos rfl]
      exact hk k' x (Option.some.inj hj)
  · rw [List.getElem?_append_left (by omega)]
theorem adr_new {N0 : Nat} {B : Nat → Nat} {D : va_G} {ca : Nat → ClassId} {tys : List (ClassId × FieldType)} {h : HP} {U : State} {H : Heap} (hI : HI N0 B D ca tys h U H) : adr N0 B h.length = H.size := by
  obtain ⟨-, -, h3, h4, -⟩ := hI
  rw [adr_ge h4]
  omega
/-- the links of a field, by class of the method, entry, class number, slot -/
def okF (own : String) (idx ci j : Nat) : Prop := ∃ (C : String) (T : u_T) (N : Nat), CL[ci]? = some (C, T, N) ∧ j < N ∧ (∀ w ∈ u_ws C T N, w ∈ GT) ∧ Cond.fieldLink own idx (T j).1 (T j).2.1 (T j).2.2.1 ∈ GT
def okC (ci : Nat) (ty : Nat → FieldType) : Prop := ∀ (C : String) (T : u_T) (N : Nat), CL[ci]? = some (C, T, N) → (∀ a, a < N → ∀ b, b < N → a ≠ b → (T a).2.1 ≠ (T b).2.1) ∧ ∀ a, a < N → parseFieldDescriptor (T a).2.2.1 = some (ty a)
def okN (own : String) (idx ci j : Nat) : Prop := ∃ (C : String) (T : u_T) (N : Nat) (host : String), CL[ci]? = some (C, T, N) ∧ j < N ∧ (∀ w ∈ u_ws C T N, w ∈ GT) ∧ Cond.fieldLinkNest own idx (T j).1 (T j).2.1 (T j).2.2.1 host ∈ lw_tbl
def okP (own : String) (idx ci j : Nat) (ty : FieldType) (fin : Bool) : Prop := ∃ (C : String) (T : u_T) (N : Nat) (ty0 : Nat → FieldType), CL[ci]? = some (C, T, N) ∧ j < N ∧ (∀ w ∈ u_ws C T N, w ∈ GT) ∧ Cond.fieldLink own idx (T j).1 (T j).2.1 (T j).2.2.1 ∈ GT ∧ okC ci ty0 ∧ ty0 j = ty ∧ (T j).2.2.2 = fin ∧ (fin = true → (T j).1 = own)
theorem E_getf {idx ci i : Nat} {fs : List Value} {v : Value} (j : Nat) (hd : decode y.2.1 pc = .ok (.getfield idx, 3)) (ok : okF y.1.cls idx ci j) (hi : 3 ≤ i) (hh : h[i]? = some (.inr (ci, fs))) (hv : fs[j]? = some v) (K : E y d k n (pc + 3) lv (v :: st) h Q) : E y d k n pc lv (.ref i :: st) h Q := by
  intro p l e R s m args below meth c H locs cells slots mc ms N0 B D ca tys ls c1 c2 c3 c4 c5 c6 c7 c8
  obtain ⟨C, T, N, a1, a2, a3, a4⟩ := ok
  exact va_get (v := tv (adr N0 B) v) c1.1 c1.2.1 c1.2.2.2.2.2.1 a3 c1.2.2.2.2.1 c7.1 c7.2.1 (i - 3) (wd_get hi hh) a1 j a2 (c1.2.2.2.2.2.1 _ a4) (fun _ h9 => h9) (by simp [List.getElem?_map, hv]) hd (K p l e R s m args below meth c H locs cells slots mc ms N0 B D ca tys ls c1 c2 c3 c4 c5 c6 c7 c8)
theorem E_getN {idx ci i : Nat} {fs : List Value} {v : Value} (j : Nat) (hd : decode y.2.1 pc = .ok (.getfield idx, 3)) (ok : okN y.1.cls idx ci j) (hi : 3 ≤ i) (hh : h[i]? = some (.inr (ci, fs))) (hv : fs[j]? = some v) (K : E y d k n (pc + 3) lv (v :: st) h Q) : E y d k n pc lv (.ref i :: st) h Q := by
  intro p l e R s m args below meth c H locs cells slots mc ms N0 B D ca tys ls c1 c2 c3 c4 c5 c6 c7 c8
  obtain ⟨C, T, N, host, a1, a2, a3, a4⟩ := ok
  exact va_getN (v := tv (adr N0 B) v) c1.1 c1.2.1 c1.2.2.2.2.2.1 a3 c1.2.2.2.2.1 c7.1 c7.2.1 (i - 3) (wd_get hi hh) a1 j a2 (va_Nw.use rfl (c1.2.2.2.2.2.2.2.2.2.1 _ _ _ _ _ _ a4)) (fun _ h9 => h9) (by simp [List.getElem?_map, hv]) hd (K p l e R s m args below meth c H locs cells slots mc ms N0 B D ca tys ls c1 c2 c3 c4 c5 c6 c7 c8)
/-- a value that may lie in a field or an array of this type -/
def fitsV (ty : FieldType) (v : Value) : Prop := ∀ a : Nat → Nat, narrow ty (tv a v) = tv a v ∧ fits ty (tv a v) = true
theorem fitsV_int (x : Int32) : fitsV .int (.int x) := fun _ => ⟨rfl, rfl⟩
theorem fitsV_obj (C : String) (x : Nat) : fitsV (.object C) (.ref x) := fun _ => ⟨rfl, rfl⟩
theorem fitsV_objN (C : String) : fitsV (.object C) .null := fun _ => ⟨rfl, rfl⟩
theorem fitsV_arr (t : FieldType) (x : Nat) : fitsV (.array t) (.ref x) := fun _ => ⟨rfl, rfl⟩
theorem E_put {idx ci i : Nat} {fs : List Value} {v : Value} (j : Nat) {ty : FieldType} (hd : decode y.2.1 pc = .ok (.putfield idx, 3)) (ok : okP y.1.cls idx ci j ty false) (hf : fitsV ty v) (hi : 3 ≤ i) (hh : h[i]? = some (.inr (ci, fs))) (hl : j < fs.length) (K : E y d k n (pc + 3) lv st (h.set i (.inr (ci, fs.set j v))) Q) : E y d k n pc lv (v :: .ref i :: st) h Q := by
  intro p l e R s m args below meth c H locs cells slots mc ms N0 B D ca tys ls c1 c2 c3 c4 c5 c6 c7 c8
  obtain ⟨C, T, N, ty0, hc, hk, hin, hlink, hC, hty, hfin, -⟩ := ok
  obtain ⟨hnm, hty0⟩ := hC C T N hc
  have hts := c1.2.2.2.2.2.1
  have hK := c7.1
  have hap := va_apart (own := y.1.cls) hts hin ty0 hty0 hnm hK hc
  obtain ⟨r, h1, cell, q1, q2, q3, q4⟩ := c7.2.1 (i - 3) _ (wd_get hi hh)
  have hr : r = (C, T, N) := Option.some.inj (h1.symm.trans hc)
  subst hr
  obtain ⟨hS, hfc, kC, hkC, hkind⟩ := hK.1 ci _ hc
  obtain ⟨cf, kf, fi, f, hfi, hsl⟩ := hS j hk
  have hlay := hts _ (hin _ (u_in_lay hk))
  unfold u_lay at hlay
  rw [if_neg (by rw [hfin]; decide)] at hlay
  have hst := (u_facts hfc hkC (u_lays hts hin hk) hfi).1
  have h6 := u_store hfc hkC hkind hlay hfi (hty ▸ hty0 j hk) (hf (adr N0 B)).1 (hf (adr N0 B)).2
  refine W.putK c1.1 c1.2.1 (f := f) ⟨c1.2.2.2.2.1, hts _ hlink, ⟨_, _, _, hfi⟩, hst⟩ (by rw [q2]; exact h6) q1 q3 (by rw [hsl]; exact k2_hasslot (q4 j hk)) rfl rfl hd fun H' e1 e2 e3 => ?_
  rw [hsl] at e1 ⊢
  have hat : va_at D CL (adr N0 B i, te (adr N0 B) (ca i) (.inr (ci, fs.set j v))) H' := by
    refine ⟨_, hc, t_OB.to (V := updV (vp_V (fs.map (tv (adr N0 B)))) j (tv (adr N0 B) v)) ⟨_, e1, q2, q3, t_set q4 hap hk _⟩ (fun x _ => ?_)⟩
    rw [vp_updV_set (by simpa using hl), List.map_set]
  exact K p l e R s m args below meth c H' _ cells slots mc ms N0 B D ca tys ls c1 c2 c3 c4 c5 (c6.put e2 e3 (by rw [adr_ge hi]; exact Nat.le_add_right _ _)) (c7.set hi hh hat e2 e3 (fun k' x e => by cases e)) c8
theorem E_putF {idx ci i : Nat} {fs : List Value} {v : Value} (j : Nat) {ty : FieldType} (hd : decode y.2.1 pc = .ok (.putfield idx, 3)) (ok : okP y.1.cls idx ci j ty true) (hy : y.1.name = "<init>") (hf : fitsV ty v) (hi : 3 ≤ i) (hh : h[i]? = some (.inr (ci, fs))) (hl : j < fs.length) (K : E y d k n (pc + 3) lv st (h.set i (.inr (ci, fs.set j v))) Q) : E y d k n pc lv (v :: .ref i :: st) h Q := by
  intro p l e R s m args below meth c H locs cells slots mc ms N0 B D ca tys ls c1 c2 c3 c4 c5 c6 c7 c8
  obtain ⟨C, T, N, ty0, hc, hk, hin, hlink, hC, hty, hfin, hdecl⟩ := ok
  obtain ⟨hnm, hty0⟩ := hC C T N hc
  have hts := c1.2.2.2.2.2.1
  have hK := c7.1
  have hap := va_apart (own := y.1.cls) hts hin ty0 hty0 hnm hK hc
  obtain ⟨r, h1, cell, q1, q2, q3, q4⟩ := c7.2.1 (i - 3) _ (wd_get hi hh)
  have hr : r = (C, T, N) := Option.some.inj (h1.symm.trans hc)
  subst hr
  obtain ⟨hS, hfc, kC, hkC, hkind⟩ := hK.1 ci _ hc
  obtain ⟨cf, kf, fi, f, hfi, hsl⟩ := hS j hk
  have hlay := hts _ (hin _ (u_in_lay hk))
  unfold u_lay at hlay
  rw [if_pos hfin] at hlay
  have hst := (u_facts hfc hkC (u_lays hts hin hk) hfi).1
  have hcf : m.cls = cf := by
    obtain ⟨_, _, c', _, _, _, -, -, hf', -, -, -, hown2, -⟩ := Cond.laysFinal_spec hlay
    have e1 : c' = cf := by have := hfi.symm.trans hf'; simp at this; exact this.1.symm
    rw [hdecl rfl] at hown2
    rw [← e1]; exact Option.some.inj (c1.2.2.2.2.1.symm.trans hown2)
  have h6 := u_fits hfc hkC hkind (Or.inr hlay) hfi (hty ▸ hty0 j hk) (hf (adr N0 B)).1 (hf (adr N0 B)).2
  refine W.putFinK c1.1 c1.2.1 c1.2.2.2.2.1 (hts _ hlink) hfi hst hcf (c1.2.2.2.2.2.2.2.1.trans hy) (by rw [q2]; exact h6) q1 q3 (by rw [hsl]; exact k2_hasslot (q4 j hk)) rfl rfl hd fun H' e1 e2 e3 => ?_
  rw [hsl] at e1 ⊢
  have hat : va_at D CL (adr N0 B i, te (adr N0 B) (ca i) (.inr (ci, fs.set j v))) H' := by
    refine ⟨_, hc, t_OB.to (V := updV (vp_V (fs.map (tv (adr N0 B)))) j (tv (adr N0 B) v)) ⟨_, e1, q2, q3, t_set q4 hap hk _⟩ (fun x _ => ?_)⟩
    rw [vp_updV_set (by simpa using hl), List.map_set]
  exact K p l e R s m args below meth c H' _ cells slots mc ms N0 B D ca tys ls c1 c2 c3 c4 c5 (c6.put e2 e3 (by rw [adr_ge hi]; exact Nat.le_add_right _ _)) (c7.set hi hh hat e2 e3 (fun k' x e => by cases e)) c8
end EH
end
section
/-! ARRAYS AND NEW CELLS: generated by wip/tools/genarr.py -/
section EA
variable {y : MI} {d k n pc : Nat} {lv : List (Nat × Value)} {st : List Value} {h : HP} {Q : Option Value → HP → Prop}
theorem E_iald {i nn : Nat} {f : Nat → Int32} {x : Int32} (hd : decode y.2.1 pc = .ok (.iaload, 1)) (hi : 3 ≤ i) (hh : h[i]? = some (.inl (0, nn, .inl f))) (hx : vp_in x nn) (K : E y d k n (pc + 1) lv (.int (f x.toNatClampNeg) :: st) h Q) : E y d k n pc lv (.int x :: .ref i :: st) h Q := by
  intro p l e R s m args below meth c H locs cells slots mc ms N0 B D ca tys ls c1 c2 c3 c4 c5 c6 c7 c8
  obtain ⟨-, t, ht⟩ := c7.2.2.2.2.1 i _ _ hh hi
  exact va_iald c1.1 c1.2.1 c7.1 c7.2.1 (i - 3) t (wd_get hi hh) ht hx hd (K p l e R s m args below meth c H locs cells slots mc ms N0 B D ca tys ls c1 c2 c3 c4 c5 c6 c7 c8)
theorem E_zald {i nn : Nat} {f : Nat → Int32} {x : Int32} (hd : decode y.2.1 pc = .ok (.baload, 1)) (hi : 3 ≤ i) (hh : h[i]? = some (.inl (1, nn, .inl f))) (hx : vp_in x nn) (K : E y d k n (pc + 1) lv (.int (f x.toNatClampNeg) :: st) h Q) : E y d k n pc lv (.int x :: .ref i :: st) h Q := by
  intro p l e R s m args below meth c H locs cells slots mc ms N0 B D ca tys ls c1 c2 c3 c4 c5 c6 c7 c8
  obtain ⟨-, t, ht⟩ := c7.2.2.2.2.1 i _ _ hh hi
  exact va_zald c1.1 c1.2.1 c7.1 c7.2.1 (i - 3) t (wd_get hi hh) ht hx hd (K p l e R s m args below meth c H locs cells slots mc ms N0 B D ca tys ls c1 c2 c3 c4 c5 c6 c7 c8)
theorem E_bald {i nn : Nat} {f : Nat → Int32} {x : Int32} (hd : decode y.2.1 pc = .ok (.baload, 1)) (hi : 3 ≤ i) (hh : h[i]? = some (.inl (2, nn, .inl f))) (hx : vp_in x nn) (K : E y d k n (pc + 1) lv (.int (f x.toNatClampNeg) :: st) h Q) : E y d k n pc lv (.int x :: .ref i :: st) h Q := by
  intro p l e R s m args below meth c H locs cells slots mc ms N0 B D ca tys ls c1 c2 c3 c4 c5 c6 c7 c8
  obtain ⟨-, t, ht⟩ := c7.2.2.2.2.1 i _ _ hh hi
  exact va_bald c1.1 c1.2.1 c7.1 c7.2.1 (i - 3) t (wd_get hi hh) ht hx hd (K p l e R s m args below meth c H locs cells slots mc ms N0 B D ca tys ls c1 c2 c3 c4 c5 c6 c7 c8)
theorem E_lald {i nn : Nat} {f : Nat → Int64} {x : Int32} (hd : decode y.2.1 pc = .ok (.laload, 1)) (hi : 3 ≤ i) (hh : h[i]? = some (.inl (3, nn, .inr (.inl f)))) (hx : vp_in x nn) (K : E y d k n (pc + 1) lv (.long (f x.toNatClampNeg) :: st) h Q) : E y d k n pc lv (.int x :: .ref i :: st) h Q := by
  intro p l e R s m args below meth c H locs cells slots mc ms N0 B D ca tys ls c1 c2 c3 c4 c5 c6 c7 c8
  obtain ⟨-, t, ht⟩ := c7.2.2.2.2.1 i _ _ hh hi
  exact va_lald c1.1 c1.2.1 c7.1 c7.2.1 (i - 3) t (wd_get hi hh) ht hx hd (K p l e R s m args below meth c H locs cells slots mc ms N0 B D ca tys ls c1 c2 c3 c4 c5 c6 c7 c8)
theorem E_aald {i nn : Nat} {f : Nat → Option Nat} {x : Int32} (hd : decode y.2.1 pc = .ok (.aaload, 1)) (hi : 3 ≤ i) (hh : h[i]? = some (.inl (4, nn, .inr (.inr (.inr (.inr f)))))) (hx : vp_in x nn) (K : E y d k n (pc + 1) lv (va_rf (f x.toNatClampNeg) :: st) h Q) : E y d k n pc lv (.int x :: .ref i :: st) h Q := by
  intro p l e R s m args below meth c H locs cells slots mc ms N0 B D ca tys ls c1 c2 c3 c4 c5 c6 c7 c8
  obtain ⟨-, t, ht⟩ := c7.2.2.2.2.1 i _ _ hh hi
  refine va_aldq c1.1 c1.2.1 c7.1 c7.2.1 (i - 3) t (wd_get hi hh) ht hx hd ?_
  have K2 := K p l e R s m args below meth c H locs cells slots mc ms N0 B D ca tys ls c1 c2 c3 c4 c5 c6 c7 c8
  rw [List.map_cons, tv_rf] at K2
  exact K2
theorem E_xald {i nn : Nat} {f : Nat → Int32} {x : Int32} (hd : decode y.2.1 pc = .ok (.iaload, 1)) (hi : i < 3) (hh : h[i]? = some (.inl (5, nn, .inl f))) (hx : vp_in x nn) (K : E y d k n (pc + 1) lv (.int (f x.toNatClampNeg) :: st) h Q) : E y d k n pc lv (.int x :: .ref i :: st) h Q := by
  intro p l e R s m args below meth c H locs cells slots mc ms N0 B D ca tys ls c1 c2 c3 c4 c5 c6 c7 c8
  obtain ⟨n', f', a1, cell, b1, b2, b3, b4, b5, b6, b7⟩ := c7.2.2.2.2.2.1 i hi
  cases hh.symm.trans a1
  have hlt : x.toNatClampNeg < nn := Nat.not_le.mp fun q => hx (Or.inr q)
  have hc : H[adr N0 B i]? = some cell := by
    unfold adr
    rw [if_pos hi]
    exact b1
  refine W.iald (v := .int (f x.toNatClampNeg)) c1.1 c1.2.1 hc b2 b3 (fun q => ?_) (b6 _ hlt) rfl rfl hd (K p l e R s m args below meth c H locs cells slots mc ms N0 B D ca tys ls c1 c2 c3 c4 c5 c6 c7 c8)
  rcases q with q | q
  · exact hx (Or.inl q)
  · omega
theorem E_alen {i kk : Nat} {x : vp_A} {v : Int32} (hd : decode y.2.1 pc = .ok (.arraylength, 1)) (hi : 3 ≤ i) (hh : h[i]? = some (.inl (kk, x))) (hv : Int32.ofNat x.1 = v) (K : E y d k n (pc + 1) lv (.int v :: st) h Q) : E y d k n pc lv (.ref i :: st) h Q := by
  intro p l e R s m args below meth c H locs cells slots mc ms N0 B D ca tys ls c1 c2 c3 c4 c5 c6 c7 c8
  obtain ⟨-, t, ht⟩ := c7.2.2.2.2.1 i _ _ hh hi
  exact va_alen c1.1 c1.2.1 c7.1 c7.2.1 (i - 3) t (wd_get hi hh) ht hv hd (K p l e R s m args below meth c H locs cells slots mc ms N0 B D ca tys ls c1 c2 c3 c4 c5 c6 c7 c8)
theorem E_xalen {i nn : Nat} {f : Nat → Int32} {v : Int32} (hd : decode y.2.1 pc = .ok (.arraylength, 1)) (hi : i < 3) (hh : h[i]? = some (.inl (5, nn, .inl f))) (hv : Int32.ofNat nn = v) (K : E y d k n (pc + 1) lv (.int v :: st) h Q) : E y d k n pc lv (.ref i :: st) h Q := by
  intro p l e R s m args below meth c H locs cells slots mc ms N0 B D ca tys ls c1 c2 c3 c4 c5 c6 c7 c8
  obtain ⟨n', f', a1, cell, b1, b2, b3, b4, b5, b6, b7⟩ := c7.2.2.2.2.2.1 i hi
  cases hh.symm.trans a1
  have hc : H[adr N0 B i]? = some cell := by
    unfold adr
    rw [if_pos hi]
    exact b1
  exact W.alen c1.1 c1.2.1 hc b2 (b5.trans hv) rfl rfl hd (K p l e R s m args below meth c H locs cells slots mc ms N0 B D ca tys ls c1 c2 c3 c4 c5 c6 c7 c8)
theorem E_iast {i nn : Nat} {f : Nat → Int32} {x : Int32} {v : Int32} (hd : decode y.2.1 pc = .ok (.iastore, 1)) (hi : 3 ≤ i) (hh : h[i]? = some (.inl (0, nn, .inl f))) (hx : vp_in x nn) (K : E y d k n (pc + 1) lv st (h.set i (.inl (0, nn, .inl (upd f x.toNatClampNeg v)))) Q) : E y d k n pc lv (.int v :: .int x :: .ref i :: st) h Q := by
  intro p l e R s m args below meth c H locs cells slots mc ms N0 B D ca tys ls c1 c2 c3 c4 c5 c6 c7 c8
  obtain ⟨-, t, ht⟩ := c7.2.2.2.2.1 i _ _ hh hi
  refine W.iast c1.1 c1.2.1 (c7.2.1 (i - 3) _ (wd_get hi hh)) ((c7.1.2 t _ ht).1 nn (fun j => .int (f j))) (fun q => by cases q) (by show ¬ (x < 0 ∨ (arrV _ _ _).slots.size ≤ _); rw [arrV_size]; exact hx) rfl rfl hd fun H1 e1 z oq => ?_
  refine K p l e R s m args below meth c H1 _ cells slots mc ms N0 B D ca tys ls c1 c2 c3 c4 c5 (c6.put z oq (by rw [adr_ge hi]; exact Nat.le_add_right _ _)) (c7.set hi hh ?_ z oq (fun k' x' e9 => by cases e9; exact ⟨_, rfl⟩)) c8
  show H1[adr N0 B i]? = some (vp_cell _ _)
  rw [e1]
  show some ((vp_cell (ca i) (nn, .inl f)).setSlot _ _) = some (vp_cell (ca i) (nn, .inl (upd f x.toNatClampNeg v)))
  rw [vp_cell_i, vp_cell_i, arrV_store]
  congr 2
  funext q
  by_cases hq : q = x.toNatClampNeg
  · subst hq
    simp [updV, upd]
    try rfl
  · simp [updV, upd, hq]
theorem E_zast {i nn : Nat} {f : Nat → Int32} {x : Int32} {v : Int32} (hd : decode y.2.1 pc = .ok (.bastore, 1)) (hi : 3 ≤ i) (hh : h[i]? = some (.inl (1, nn, .inl f))) (hx : vp_in x nn) (K : E y d k n (pc + 1) lv st (h.set i (.inl (1, nn, .inl (upd f x.toNatClampNeg (vp_nar .boolean v))))) Q) : E y d k n pc lv (.int v :: .int x :: .ref i :: st) h Q := by
  intro p l e R s m args below meth c H locs cells slots mc ms N0 B D ca tys ls c1 c2 c3 c4 c5 c6 c7 c8
  obtain ⟨-, t, ht⟩ := c7.2.2.2.2.1 i _ _ hh hi
  refine W.zast c1.1 c1.2.1 (c7.2.1 (i - 3) _ (wd_get hi hh)) ((c7.1.2 t _ ht).1 nn (fun j => .int (f j))) (fun q => by cases q) (by show ¬ (x < 0 ∨ (arrV _ _ _).slots.size ≤ _); rw [arrV_size]; exact hx) rfl rfl hd fun H1 e1 z oq => ?_
  refine K p l e R s m args below meth c H1 _ cells slots mc ms N0 B D ca tys ls c1 c2 c3 c4 c5 (c6.put z oq (by rw [adr_ge hi]; exact Nat.le_add_right _ _)) (c7.set hi hh ?_ z oq (fun k' x' e9 => by cases e9; exact ⟨_, rfl⟩)) c8
  show H1[adr N0 B i]? = some (vp_cell _ _)
  rw [e1]
  show some ((vp_cell (ca i) (nn, .inl f)).setSlot _ _) = some (vp_cell (ca i) (nn, .inl (upd f x.toNatClampNeg (vp_nar .boolean v))))
  rw [vp_cell_i, vp_cell_i, arrV_store]
  congr 2
  funext q
  by_cases hq : q = x.toNatClampNeg
  · subst hq
    simp [updV, upd, vp_nar]
    try rfl
  · simp [updV, upd, hq]
theorem E_bast {i nn : Nat} {f : Nat → Int32} {x : Int32} {v : Int32} (hd : decode y.2.1 pc = .ok (.bastore, 1)) (hi : 3 ≤ i) (hh : h[i]? = some (.inl (2, nn, .inl f))) (hx : vp_in x nn) (K : E y d k n (pc + 1) lv st (h.set i (.inl (2, nn, .inl (upd f x.toNatClampNeg (vp_nar .byte v))))) Q) : E y d k n pc lv (.int v :: .int x :: .ref i :: st) h Q := by
  intro p l e R s m args below meth c H locs cells slots mc ms N0 B D ca tys ls c1 c2 c3 c4 c5 c6 c7 c8
  obtain ⟨-, t, ht⟩ := c7.2.2.2.2.1 i _ _ hh hi
  refine W.bast c1.1 c1.2.1 (c7.2.1 (i - 3) _ (wd_get hi hh)) ((c7.1.2 t _ ht).1 nn (fun j => .int (f j))) (fun q => by cases q) (by show ¬ (x < 0 ∨ (arrV _ _ _).slots.size ≤ _); rw [arrV_size]; exact hx) rfl rfl hd fun H1 e1 z oq => ?_
  refine K p l e R s m args below meth c H1 _ cells slots mc ms N0 B D ca tys ls c1 c2 c3 c4 c5 (c6.put z oq (by rw [adr_ge hi]; exact Nat.le_add_right _ _)) (c7.set hi hh ?_ z oq (fun k' x' e9 => by cases e9; exact ⟨_, rfl⟩)) c8
  show H1[adr N0 B i]? = some (vp_cell _ _)
  rw [e1]
  show some ((vp_cell (ca i) (nn, .inl f)).setSlot _ _) = some (vp_cell (ca i) (nn, .inl (upd f x.toNatClampNeg (vp_nar .byte v))))
  rw [vp_cell_i, vp_cell_i, arrV_store]
  congr 2
  funext q
  by_cases hq : q = x.toNatClampNeg
  · subst hq
    simp [updV, upd, vp_nar]
    try rfl
  · simp [updV, upd, hq]
theorem E_last {i nn : Nat} {f : Nat → Int64} {x : Int32} {v : Int64} (hd : decode y.2.1 pc = .ok (.lastore, 1)) (hi : 3 ≤ i) (hh : h[i]? = some (.inl (3, nn, .inr (.inl (f))))) (hx : vp_in x nn) (K : E y d k n (pc + 1) lv st (h.set i (.inl (3, nn, .inr (.inl (vp_updL f x.toNatClampNeg v))))) Q) : E y d k n pc lv (.long v :: .int x :: .ref i :: st) h Q := by
  intro p l e R s m args below meth c H locs cells slots mc ms N0 B D ca tys ls c1 c2 c3 c4 c5 c6 c7 c8
  obtain ⟨-, t, ht⟩ := c7.2.2.2.2.1 i _ _ hh hi
  refine W.last c1.1 c1.2.1 (c7.2.1 (i - 3) _ (wd_get hi hh)) ((c7.1.2 t _ ht).1 nn (fun j => .long (f j))) (fun q => by cases q) (by show ¬ (x < 0 ∨ (arrV _ _ _).slots.size ≤ _); rw [arrV_size]; exact hx) rfl rfl hd fun H1 e1 z oq => ?_
  refine K p l e R s m args below meth c H1 _ cells slots mc ms N0 B D ca tys ls c1 c2 c3 c4 c5 (c6.put z oq (by rw [adr_ge hi]; exact Nat.le_add_right _ _)) (c7.set hi hh ?_ z oq (fun k' x' e9 => by cases e9; exact ⟨_, rfl⟩)) c8
  show H1[adr N0 B i]? = some (vp_cell _ _)
  rw [e1]
  show some ((vp_cell (ca i) (nn, .inr (.inl (f)))).setSlot _ _) = some (vp_cell (ca i) (nn, .inr (.inl (vp_updL f x.toNatClampNeg v))))
  rw [vp_cell_l, vp_cell_l, arrV_store]
  congr 2
  funext q
  by_cases hq : q = x.toNatClampNeg
  · subst hq
    simp [updV, vp_updL]
    try rfl
  · simp [updV, vp_updL, hq]
end EA
end
section
/-! REFERENCES IN ARRAYS, NEW CELLS, STATICS -/
section EN
variable {y : MI} {d k n pc : Nat} {lv : List (Nat × Value)} {st : List Value} {h : HP} {Q : Option Value → HP → Prop}
theorem CL_chain : CL[1]? = some (RX1, TX1, 3) := rfl
theorem E_aast {i nn v : Nat} {f : Nat → Option Nat} {x : Int32} {vs : List Value} (hd : decode y.2.1 pc = .ok (.aastore, 1)) (hi : 3 ≤ i) (hh : h[i]? = some (.inl (4, nn, .inr (.inr (.inr (.inr f)))))) (hx : vp_in x nn) (hv3 : 3 ≤ v) (hv : h[v]? = some (.inr (1, vs))) (K : E y d k n (pc + 1) lv st (h.set i (.inl (4, nn, .inr (.inr (.inr (.inr (va_up f x.toNatClampNeg (some v)))))))) Q) : E y d k n pc lv (.ref v :: .int x :: .ref i :: st) h Q := by
  intro p l e R s m args below meth c H locs cells slots mc ms N0 B D ca tys ls c1 c2 c3 c4 c5 c6 c7 c8
  obtain ⟨-, t, ht⟩ := c7.2.2.2.2.1 i _ _ hh hi
  have hlt : x.toNatClampNeg < nn := Nat.not_le.mp fun q => hx (Or.inr q)
  have h0 : ¬ x < 0 := fun q => hx (Or.inl q)
  obtain ⟨r', hr', cellV, g1, g2, g3, -⟩ := c7.2.1 (v - 3) _ (wd_get hv3 hv)
  have hcls := (c7.1.1 1 _ CL_chain).2
  obtain ⟨kA, comp, k1, k2, k3, -⟩ := (c7.1.2 t _ ht).2
  have hcomp : comp = D.1 1 := Option.some.inj (k3.symm.trans hcls.1)
  subst hcomp
  obtain ⟨kC, hkC, -⟩ := hcls.2
  refine W.aast c1.1 c1.2.1 (c7.2.1 (i - 3) _ (wd_get hi hh)) (fun q h => by cases h) (fun h => by cases h) k1 k2 rfl hkC ⟨h0, by show _ < (arrV _ _ _).slots.size; rw [arrV_size]; exact hlt⟩ g1 (fun q h => by rw [g3] at h; cases h) (by rw [g2]; exact hkC) (by rw [g2]; exact va_assign hcls) rfl rfl hd fun H1 e1 z oq => ?_
  refine K p l e R s m args below meth c H1 _ cells slots mc ms N0 B D ca tys ls c1 c2 c3 c4 c5 (c6.put z oq (by rw [adr_ge hi]; exact Nat.le_add_right _ _)) (c7.set hi hh ?_ z oq (fun k' x' e9 => by cases e9; exact ⟨_, rfl⟩)) c8
  show H1[adr N0 B i]? = some (vp_cell _ _)
  rw [e1]
  show some ((vp_cell (ca i) (nn, .inr (.inr (.inr (.inr (fun j => (f j).map (adr N0 B))))))).setSlot _ _) = some (vp_cell (ca i) (nn, .inr (.inr (.inr (.inr (fun j => (va_up f x.toNatClampNeg (some v) j).map (adr N0 B)))))))
  rw [vp_cell_q, vp_cell_q, arrV_store]
  congr 2
  funext q
  by_cases hq : q = x.toNatClampNeg
  · subst hq
    simp [updV, va_up, va_rf]
  · simp [updV, va_up, hq]
theorem E_aastN {i nn : Nat} {f : Nat → Option Nat} {x : Int32} (hd : decode y.2.1 pc = .ok (.aastore, 1)) (hi : 3 ≤ i) (hh : h[i]? = some (.inl (4, nn, .inr (.inr (.inr (.inr f)))))) (hx : vp_in x nn) (K : E y d k n (pc + 1) lv st (h.set i (.inl (4, nn, .inr (.inr (.inr (.inr (va_up f x.toNatClampNeg none))))))) Q) : E y d k n pc lv (.null :: .int x :: .ref i :: st) h Q := by
  intro p l e R s m args below meth c H locs cells slots mc ms N0 B D ca tys ls c1 c2 c3 c4 c5 c6 c7 c8
  obtain ⟨-, t, ht⟩ := c7.2.2.2.2.1 i _ _ hh hi
  refine va_WaastN (C := "SwitchDesk$Chain") c1.1 c1.2.1 (c7.2.1 (i - 3) _ (wd_get hi hh)) ((c7.1.2 t _ ht).1 nn (fun j => va_rf ((f j).map (adr N0 B)))) (fun h => by cases h) (by show ¬ (x < 0 ∨ (arrV _ _ _).slots.size ≤ _); rw [arrV_size]; exact hx) rfl rfl hd fun H1 e1 z oq => ?_
  refine K p l e R s m args below meth c H1 _ cells slots mc ms N0 B D ca tys ls c1 c2 c3 c4 c5 (c6.put z oq (by rw [adr_ge hi]; exact Nat.le_add_right _ _)) (c7.set hi hh ?_ z oq (fun k' x' e9 => by cases e9; exact ⟨_, rfl⟩)) c8
  show H1[adr N0 B i]? = some (vp_cell _ _)
  rw [e1]
  show some ((vp_cell (ca i) (nn, .inr (.inr (.inr (.inr (fun j => (f j).map (adr N0 B))))))).setSlot _ _) = some (vp_cell (ca i) (nn, .inr (.inr (.inr (.inr (fun j => (va_up f x.toNatClampNeg none j).map (adr N0 B)))))))
  rw [vp_cell_q, vp_cell_q, arrV_store]
  congr 2
  funext q
  by_cases hq : q = x.toNatClampNeg
  · subst hq
    simp [updV, va_up, va_rf]
  · simp [updV, va_up, hq]
/-- a class whose objects may be made -/
def okW (own : String) (idx ci : Nat) (N : Nat) (ty0 : Nat → FieldType) : Prop := ∃ (C : String) (T : u_T), CL[ci]? = some (C, T, N) ∧ (∀ w ∈ u_ws C T N, w ∈ GT) ∧ okC ci ty0 ∧ Cond.classLink own idx C ∈ GT ∧ Cond.instantiable C N ∈ GT ∧ Cond.initialized C ∈ GT
theorem E_new {idx ci N : Nat} {fs : List Value} {ty0 : Nat → FieldType} (hd : decode y.2.1 pc = .ok (.new idx, 3)) (ok : okW y.1.cls idx ci N ty0) (hfs : ∀ j, j < N → fs[j]? = some (defaultValue (ty0 j))) (hk : 1 ≤ k) (hn : N ≤ n) (K : E y d (k - 1) (n - N) (pc + 3) lv (.ref h.length :: st) (h ++ [.inr (ci, fs)]) Q) : E y d k n pc lv st h Q := by
  intro p l e R s m args below meth c H locs cells slots mc ms N0 B D ca tys ls c1 c2 c3 c4 c5 c6 c7 c8
  obtain ⟨C, T, hc, hin, hC, g1, g2, g3⟩ := ok
  obtain ⟨-, hty0⟩ := hC C T N hc
  have hts := c1.2.2.2.2.2.1
  have hKn := c7.1.1 ci _ hc
  refine W.newcK c1.1 c1.2.1 c1.2.2.2.2.1 (hts _ g1) (hts _ g2) (hts _ g3) rfl hd (by have := c2.2.2.1; omega) (by have := c2.2.2.2; omega) hKn.2.1 rfl fun H1 kC hkC e1 z1 o1 => ?_
  have hdef : ∀ (a : Nat → Nat) (ty : FieldType), tv a (defaultValue ty) = defaultValue ty := fun a ty => by cases ty <;> rfl
  have K2 := K p l e R s m args below meth c H1 locs (cells + 1) (slots + N) mc ms N0 B D _ tys ls c1 c2 (by omega) (by omega) c5 ⟨Nat.le_trans c6.1 (by omega), fun x h1 h2 => (o1 x (Nat.lt_of_lt_of_le h1 c6.1)).trans (c6.2.1 x h1 h2), c6.2.2⟩ (c7.push (cA := 0) (c := .inr (ci, fs)) ⟨_, hc, (u_born ty0 hts hin hKn hkC e1 hty0).to (fun j hj => by
    have h9 := hfs j hj
    simp [vp_V, List.getD_eq_getElem?_getD, List.getElem?_map, h9, hdef])⟩ z1 o1 c7.1 (fun _ _ q => q) (fun k' x e9 => by cases e9)) c8
  rw [List.map_cons] at K2
  show W p l e R s m args below meth c H1 locs (cells + 1) (slots + N) _ (F0 m (pc + 3) ls (.ref H.size :: _))
  rw [← adr_new c7]
  exact K2
theorem E_newa {kk nn : Nat} {x : Int32} {atype : ArrayType} {a0 : vp_A} (hd : decode y.2.1 pc = .ok (.newarray atype, 2)) (hg : Cond.arrayClass (kty kk) ∈ GT) (hty : newarray.typeOf atype = kty kk) (hk5 : kk < 4) (ha : ∀ cA : ClassId, vp_cell cA a0 = arrV cA nn (fun _ => defaultValue (kty kk))) (ha2 : ∀ a, ta a a0 = a0) (hx : ¬ x < 0) (hN : x.toNatClampNeg = nn) (hb : nn * componentBytes (kty kk) ≤ 536870912) (hk : 1 ≤ k) (hn : nn ≤ n) (K : E y d (k - 1) (n - nn) (pc + 2) lv (.ref h.length :: st) (h ++ [.inl (kk, a0)]) Q) : E y d k n pc lv (.int x :: st) h Q := by
  intro p l e R s m args below meth c H locs cells slots mc ms N0 B D ca tys ls c1 c2 c3 c4 c5 c6 c7 c8
  have hts := c1.2.2.2.2.2.1
  refine va_newaK c1.1 c1.2.1 (by rw [hty]; exact hts _ hg) rfl hd rfl hx hN (by rw [hty]; exact hb) (by have := c2.2.2.1; omega) (by have := c2.2.2.2; omega) rfl fun H1 cA e1 z1 o1 hAr hNm => ?_
  rw [hty] at e1 hAr hNm
  have hK2 : va_K D CL (tys ++ [(cA, kty kk)]) s := c7.1.app ⟨c7.1.1, fun j q hj => by
    have hz : j < 1 := (List.getElem?_eq_some_iff.mp hj).1
    rw [show j = 0 by omega] at hj
    cases hj
    refine ⟨hAr, ?_⟩
    match kk, hk5, hNm with
    | 0, _, h9 => exact h9
    | 1, _, h9 => exact h9
    | 2, _, h9 => exact h9
    | 3, _, h9 => exact h9⟩
  have K2 := K p l e R s m args below meth c H1 locs (cells + 1) (slots + nn) mc ms N0 B D _ _ ls c1 c2 (by omega) (by omega) c5 ⟨Nat.le_trans c6.1 (by omega), fun x h1 h2 => (o1 x (Nat.lt_of_lt_of_le h1 c6.1)).trans (c6.2.1 x h1 h2), c6.2.2⟩ (c7.push (cA := cA) (c := .inl (kk, a0)) (by
    show H1[H.size]? = some (vp_cell cA (ta _ a0))
    rw [ha2, ha]
    exact e1) z1 o1 hK2 (fun t x hx => by rw [List.getElem?_append_left (List.getElem?_eq_some_iff.mp hx).1]; exact hx) (fun k' x e9 => by
    cases e9
    exact ⟨by omega, tys.length, by simp⟩)) c8
  rw [List.map_cons] at K2
  show W p l e R s m args below meth c H1 locs (cells + 1) (slots + nn) _ (F0 m (pc + 2) ls (.ref H.size :: _))
  rw [← adr_new c7]
  exact K2
theorem E_newq {idx nn : Nat} {x : Int32} (hd : decode y.2.1 pc = .ok (.anewarray idx, 3)) (hg : Cond.classLink y.1.cls idx "SwitchDesk$Chain" ∈ GT) (hx : ¬ x < 0) (hN : x.toNatClampNeg = nn) (hb : nn * 4 ≤ 536870912) (hk : 1 ≤ k) (hn : nn ≤ n) (K : E y d (k - 1) (n - nn) (pc + 3) lv (.ref h.length :: st) (h ++ [.inl (4, nn, .inr (.inr (.inr (.inr (fun _ => none)))))]) Q) : E y d k n pc lv (.int x :: st) h Q := by
  intro p l e R s m args below meth c H locs cells slots mc ms N0 B D ca tys ls c1 c2 c3 c4 c5 c6 c7 c8
  have hts := c1.2.2.2.2.2.1
  subst hN
  refine W.anew c1.1 c1.2.1 c1.2.2.2.2.1 (hts _ hg) (va_AO.use c1.2.2.2.2.2.2.2.2.2.2) rfl hd rfl hx hb (by have := c2.2.2.1; omega) (by have := c2.2.2.2; omega) fun cA kA comp f1 f2 f3 f4 => ?_
  generalize hH1 : H.push ({ cls := cA, slots := Array.replicate x.toNatClampNeg .null, vm := .none } : Cell) = H1
  have z1 : H1.size = H.size + 1 := by rw [← hH1, Array.size_push]
  have e1 : H1[H.size]? = some (arrV cA x.toNatClampNeg (fun _ => .null)) := by rw [← hH1, Array.getElem?_push_size, ← arrV_new]
  have o1 : ∀ q : Nat, q < H.size → H1[q]? = H[q]? := fun q hq => by rw [← hH1, Array.getElem?_push, if_neg (Nat.ne_of_lt hq)]
  have hAr : ArrOfT s cA (.object "SwitchDesk$Chain") := fun N z => ⟨(fun k h => by cases h), kA, f2, comp, f3⟩
  have hK2 : va_K D CL (tys ++ [(cA, kty 4)]) s := c7.1.app ⟨c7.1.1, fun j q hj => by
    have hz : j < 1 := (List.getElem?_eq_some_iff.mp hj).1
    rw [show j = 0 by omega] at hj
    cases hj
    exact ⟨hAr, kA, comp, f2, f3, f4, f1⟩⟩
  have K2 := K p l e R s m args below meth c H1 locs (cells + 1) (slots + x.toNatClampNeg) mc ms N0 B D _ _ ls c1 c2 (by omega) (by omega) c5 ⟨Nat.le_trans c6.1 (by omega), fun x h1 h2 => (o1 x (Nat.lt_of_lt_of_le h1 c6.1)).trans (c6.2.1 x h1 h2), c6.2.2⟩ (c7.push (cA := cA) (c := .inl (4, x.toNatClampNeg, .inr (.inr (.inr (.inr (fun _ => none)))))) e1 z1 o1 hK2 (fun t x hx => by rw [List.getElem?_append_left (List.getElem?_eq_some_iff.mp hx).1]; exact hx) (fun k' x e9 => by
    cases e9
    exact ⟨by omega, tys.length, by simp⟩)) c8
  rw [List.map_cons] at K2
  show W p l e R s m args below meth c H1 locs (cells + 1) (slots + x.toNatClampNeg) _ (F0 m (pc + 3) ls (.ref H.size :: _))
  rw [← adr_new c7]
  exact K2
theorem E_lowest {idx : Nat} (hd : decode y.2.1 pc = .ok (.getstatic idx, 3)) (hg : Cond.fieldLink y.1.cls idx "SwitchDesk$Numbers" "LOWEST" "[I" ∈ GT) (K : E y d k n (pc + 3) lv (.ref 1 :: st) h Q) : E y d k n pc lv st h Q := by
  intro p l e R s m args below meth c H locs cells slots mc ms N0 B D ca tys ls c1 c2 c3 c4 c5 c6 c7 c8
  obtain ⟨cf, kf, fi, f, a, cell, h1, h2, h3, h4, h5, h6, h7, h8⟩ := c7.2.2.2.2.2.2.1
  exact W.gets c1.1 c1.2.1 c1.2.2.2.2.1 (c1.2.2.2.2.2.1 _ hg) h1 h2 h3 h4 h5 (fun e => by rw [e] at h6; cases h6) h7 rfl hd (K p l e R s m args below meth c H locs cells slots mc ms N0 B D ca tys ls c1 c2 c3 c4 c5 c6 c7 c8)
theorem E_highest {idx : Nat} (hd : decode y.2.1 pc = .ok (.getstatic idx, 3)) (hg : Cond.fieldLink y.1.cls idx "SwitchDesk$Numbers" "HIGHEST" "[I" ∈ GT) (K : E y d k n (pc + 3) lv (.ref 2 :: st) h Q) : E y d k n pc lv st h Q := by
  intro p l e R s m args below meth c H locs cells slots mc ms N0 B D ca tys ls c1 c2 c3 c4 c5 c6 c7 c8
  obtain ⟨cf, kf, fi, f, a, cell, h1, h2, h3, h4, h5, h6, h7, h8⟩ := c7.2.2.2.2.2.2.2.1
  exact W.gets c1.1 c1.2.1 c1.2.2.2.2.1 (c1.2.2.2.2.2.1 _ hg) h1 h2 h3 h4 h5 (fun e => by rw [e] at h6; cases h6) h7 rfl hd (K p l e R s m args below meth c H locs cells slots mc ms N0 B D ca tys ls c1 c2 c3 c4 c5 c6 c7 c8)
theorem E_objInit {idx i : Nat} (hd : decode y.2.1 pc = .ok (.invokespecial idx, 3)) (h1 : Cond.methodLink y.1.cls idx Lib.objectInit ∈ GT) (h2 : Cond.instanceMethod Lib.objectInit ∈ GT) (h3 : Cond.code Lib.objectInit ⟨#[0xb1]⟩ 1 none ∈ GT) (hd1 : 1 ≤ d) (hst : (st.map fun v => v.category).sum ≤ 20) (K : E y d k n (pc + 3) lv st h Q) : E y d k n pc lv (.ref i :: st) h Q := by
  intro p l e R s m args below meth c H locs cells slots mc ms N0 B D ca tys ls c1 c2 c3 c4 c5 c6 c7 c8
  have hts := c1.2.2.2.2.2.1
  refine W.objInit c1.1 c1.2.1 c1.2.2.2.2.1 (hts _ h1) (hts _ h2) (hts _ h3) rfl (by rw [c1.2.2.2.1]; exact c8.1) rfl hd (Nat.le_trans hd1 c2.1) ?_ (K p l e R s m args below meth c H locs cells slots mc ms N0 B D ca tys ls c1 c2 c3 c4 c5 c6 c7 c8)
  have hc : ((st.map (tv (adr N0 B))).map fun v => v.category) = st.map fun v => v.category := by
    rw [List.map_map]
    exact List.map_congr_left (fun v _ => tv_cat _ v)
  rw [hc]
  show 2 * 0 + _ + 12 ≤ _
  have := c2.2.1
  omega
end EN
end
section
/-! CALLS: a triple of the callee's body gives its contract, and that the caller's step -/
section EC
variable {y : MI} {d k n pc : Nat} {lv : List (Nat × Value)} {st : List Value} {h : HP} {Q : Option Value → HP → Prop}
theorem lv_args_map (a : Nat → Nat) (vs : List Value) : ∀ i, lv_args i (vs.map (tv a)) = lm a (lv_args i vs) := by
  induction vs with
  | nil => intro i; rfl
  | cons v t ih =>
    intro i
    show (i, tv a v) :: lv_args (if (tv a v).category = 2 then i + 2 else i + 1) (t.map (tv a)) = lm a ((i, v) :: lv_args (if v.category = 2 then i + 2 else i + 1) t)
    rw [tv_cat, ih]
    rfl
theorem lg_sl_len (a : Nat → Nat) (vs : List Value) : (lg_sl (vs.map (tv a))).length = (lg_sl vs).length := by
  induction vs with
  | nil => rfl
  | cons v t ih =>
    show ((if (tv a v).category = 2 then [Slot.val (tv a v), .second] else [.val (tv a v)]) ++ lg_sl (t.map (tv a))).length = ((if v.category = 2 then [Slot.val v, .second] else [.val v]) ++ lg_sl t).length
    rw [tv_cat, List.length_append, List.length_append, ih]
    split <;> rfl
def PI (N0 : Nat) (B : Nat → Nat) (D : va_G) (ca : Nat → ClassId) (tys : List (ClassId × FieldType)) (h : HP) (vs : List Value) : Array Value → State → Prop := va_Pc (vs.map (tv (adr N0 B))) (fun U => HI N0 B D ca tys h U U.heap ∧ NI U ∧ N0 ≤ U.heap.size)
theorem met_of_E {vs : List Value} (hE : E y d k n 0 (lv_args 0 vs) [] h Q) (hy : plainName y.1.cls = true) (hl : (lg_sl vs).length ≤ y.2.2.1) (l : Launch) (N0 : Nat) (B : Nat → Nat) (D : va_G) (ca : Nat → ClassId) (tys : List (ClassId × FieldType)) : Met l y.1 (Cond.code y.1 y.2.1 y.2.2.1 y.2.2.2 :: GT) { frames := d, cells := k, slots := n, locals := 40 * d } (PI N0 B D ca tys h vs) (EQ N0 B D Q) k n (AA N0) := by
  refine Met.ofW (cc := y.2.1) (maxL := y.2.2.1) (ret := y.2.2.2) hy rfl ?_
  intro p e s m args below meth c s₁ Bd hml hv
  obtain ⟨rfl, hI, hN, hz⟩ := hv
  have hts := atoms_spec (ws := Cond.code y.1 y.2.1 y.2.2.1 y.2.2.2 :: GT) Bd.pre
  rw [lg_entry_eq]
  refine hE p l e _ s m _ below meth c s.heap [] 0 0 k n N0 B D ca tys _ ⟨Bd.exec, Bd.bytes, Bd.returns, hml, findClass_of_methodNamed Bd.named, fun w hw => hts w (List.mem_cons_of_mem _ hw), Bd.notSynchronized, (name_of_methodNamed Bd.named Bd.method).1, hN⟩ ⟨Nat.le_refl _, Nat.le_refl _, Nat.le_refl _, Nat.le_refl _⟩ (by omega) (by omega) hz va_S.rf hI ?_
  rw [← lv_args_map]
  exact lv_entry _ (by rw [lg_sl_len]; exact hl)
theorem NI.warm {s U : State} (hW : s.WarmedH U.vm) (hN : NI s) : NI U := ⟨fun a i x b hm => (hN.1 a i x b hm).warmM hW, fun a i r nm ds b hm => (hN.2.1 a i r nm ds b hm).warmF hW, va_AO.moved hW.alike hN.2.2⟩
theorem run_go {p : Program} {l : Launch} {e : Env} {R : Room} {s : State} {m : MethodId} {args a : Array Value} {below : List Frame} {meth : Method} {c : Code} {H : Heap} {locs : List Loc} {cells slots kc nc pc N0 : Nat} {B : Nat → Nat} {D : va_G} {Qw : State → Prop} {Qc : Option Value → HP → Prop} {ls : Array Slot} {st0 rest : List Value}
    (hr : va_Run p l e R s m args below meth c H locs cells slots kc nc (F0 m pc ls st0) rest (EQ N0 B D Qc a) (AA N0)) (hS : va_S (AA N0) s.heap H locs)
    (kk : ∀ (r : Option Value) (h' : HP) (ca : Nat → ClassId) (tys : List (ClassId × FieldType)) (H' : Heap) (locs' : List Loc), Qc r h' → HI N0 B D ca tys h' s H' → va_S (AA N0) s.heap H' locs' → W p l e R s m args below meth c H' locs' (cells + kc) (slots + nc) Qw (F0 m (pc + 3) ls ((r.map (tv (adr N0 B))).toList ++ rest))) :
    W p l e R s m args below meth c H locs cells slots Qw (F0 m pc ls st0) := by
  intro T hT X
  obtain ⟨v, st₀, t, T', L, h0, X', hL, e1, e2, ⟨r, h', ca', tys', hv, hq, hI, hz, hk⟩, st⟩ := hr T hT X
  cases hv
  rw [h0] at hz hk
  have hal : t.vm.Alike s.vm := by rw [← e2]; exact X'.warmed.alike.symm
  have hI2 : HI N0 B D ca' tys' h' s T'.heap := by rw [e1]; exact hI.moved hal
  obtain ⟨t2, a1, b1⟩ := kk r h' ca' tys' T'.heap (locs ++ L) hq hI2
    ⟨Nat.le_trans hS.1 (by rw [e1]; exact hz), fun q h1 h2 => by rw [e1, hk q (Nat.lt_of_lt_of_le h1 hS.1) h2]; exact hS.2.1 q h1 h2, fun q hq => by
      rcases List.mem_append.mp hq with h | h
      · exact hS.2.2 q h
      · exact hL q h⟩ T' rfl X'
  exact ⟨t2, st t2 a1, b1⟩
def EM (y : MI) (d k n : Nat) (vs : List Value) (h : HP) (Q : Option Value → HP → Prop) : Prop := E y d k n 0 (lv_args 0 vs) [] h Q
/-- what is known of a callee's code -/
def okY (yc : MI) (np : Nat) : Prop := Cond.code yc.1 yc.2.1 yc.2.2.1 yc.2.2.2 ∈ GT ∧ Cond.initialized yc.1.cls ∈ GT ∧ plainName yc.1.cls = true ∧ (yc.1.cls ≠ "java/lang/invoke/MethodHandle" ∧ yc.1.cls ≠ "java/lang/invoke/VarHandle" ∧ (parseMethodDescriptor yc.1.desc).map (fun d => d.parameters.length) = some np) ∧ yc.2.2.1 ≤ 21
def okV (own : String) (idx : Nat) (yc : MI) (np : Nat) : Prop := okY yc np ∧ Cond.instanceMethod yc.1 ∈ GT ∧ Cond.selects yc.1.cls yc.1 yc.1 ∈ GT ∧ (Cond.methodLink own idx yc.1 ∈ GT ∨ ∃ host, Cond.methodLinkNest own idx yc.1 host ∈ lw_tbl)
def okS (own : String) (idx : Nat) (yc : MI) (np : Nat) : Prop := okY yc np ∧ Cond.static yc.1 ∈ GT ∧ (Cond.methodLink own idx yc.1 ∈ GT ∨ ∃ host, Cond.methodLinkNest own idx yc.1 host ∈ lw_tbl)
def okI (own : String) (idx : Nat) (yc : MI) (np : Nat) : Prop := okY yc np ∧ yc.2.2.2 = none ∧ yc.1.name = "<init>" ∧ Cond.instanceMethod yc.1 ∈ GT ∧ (Cond.methodLink own idx yc.1 ∈ GT ∨ ∃ host, Cond.methodLinkNest own idx yc.1 host ∈ lw_tbl)
theorem cat_map (a : Nat → Nat) (rest : List Value) : ((rest.map (tv a)).map fun v => v.category).sum = (rest.map fun v => v.category).sum := by
  rw [List.map_map]
  exact congrArg _ (List.map_congr_left (fun v _ => tv_cat _ v))
theorem PI_blind {N0 : Nat} {B : Nat → Nat} {D : va_G} {ca : Nat → ClassId} {tys : List (ClassId × FieldType)} {h : HP} {vs : List Value} : FrameBlind (PI N0 B D ca tys h vs) := by
  intro a U g mk q
  obtain ⟨q0, q1, q2, q3⟩ := q
  exact ⟨q0, q1.moved (u := U) (U := U.calling g mk a) (Vm.Alike.refl U.vm), ⟨fun a i x b hm => (q2.1 a i x b hm).same rfl rfl, fun a i r nm ds b hm => (q2.2.1 a i r nm ds b hm).same rfl rfl, va_AO.moved (u := U) (U := U.calling g mk a) (Vm.Alike.refl U.vm) q2.2.2⟩, q3⟩
theorem PI_at {N0 : Nat} {B : Nat → Nat} {D : va_G} {ca : Nat → ClassId} {tys : List (ClassId × FieldType)} {h : HP} {vs : List Value} {s : State} {H : Heap} (hI : HI N0 B D ca tys h s H) (hN : NI s) (hz : N0 ≤ H.size) : ∀ U : State, U.heap = H → s.WarmedH U.vm → PI N0 B D ca tys h vs (vs.map (tv (adr N0 B))).toArray U :=
  fun U hU hW => ⟨rfl, by rw [hU]; exact hI.moved hW.alike, hN.warm hW, by rw [hU]; exact hz⟩
theorem E_callV {yc : MI} {idx np ci i dc kc nc : Nat} {fs : List Value} {q : vw_C} {Qc : Option Value → HP → Prop} (As rest : List Value) (hd : decode y.2.1 pc = .ok (.invokevirtual idx, 3)) (ok : okV y.1.cls idx yc np) (hst : st = As.reverse ++ .ref i :: rest) (hnp : As.length = np) (hi : 3 ≤ i) (hh : h[i]? = some (.inr (ci, fs))) (hc : CL[ci]? = some q) (hq : q.1 = yc.1.cls) (hl : (lg_sl (.ref i :: As)).length ≤ yc.2.2.1) (hw : (rest.map fun v => v.category).sum ≤ 8) (hC : EM yc dc kc nc (.ref i :: As) h Qc) (hdc : dc + 1 ≤ d) (hk : kc ≤ k) (hn : nc ≤ n) (K : ∀ r h', Qc r h' → E y d (k - kc) (n - nc) (pc + 3) lv (r.toList ++ rest) h' Q) : E y d k n pc lv st h Q := by
  intro p l e R s m args below meth c H locs cells slots mc ms N0 B D ca tys ls c1 c2 c3 c4 c5 c6 c7 c8
  obtain ⟨⟨g1, g2, g3, g4, g5⟩, g6, g7, g8⟩ := ok
  have hts := c1.2.2.2.2.2.1
  have hM := met_of_E hC g3 hl l N0 B D ca tys
  subst hst
  have hR : dc + 1 ≤ R.frames ∧ 8 + (yc.2.2.1 + 11) + 40 * dc ≤ R.locals := ⟨Nat.le_trans hdc c2.1, by have := c2.2.1; omega⟩
  have hroom : cells + kc ≤ R.cells ∧ slots + nc ≤ R.slots := ⟨by have := c2.2.2.1; omega, by have := c2.2.2.2; omega⟩
  have hW8 : 2 * (F0 m pc ls ((As.reverse ++ Value.ref i :: rest).map (tv (adr N0 B)))).monitorRoom + ((rest.map (tv (adr N0 B))).map fun v => v.category).sum ≤ 8 := lv_room (by rw [cat_map]; exact hw)
  have hrc : ∃ cell : Cell, H[adr N0 B i]? = some cell ∧ cell.vm.isStatics = false ∧ s.vm.findClass yc.1.cls = some cell.cls := by
    rw [← hq]
    exact va_recv c7.1 c7.2.1 hc (wd_get hi hh)
  have hstk : (F0 m pc ls ((As.reverse ++ Value.ref i :: rest).map (tv (adr N0 B)))).stack = (As.map (tv (adr N0 B))).reverse ++ .ref (adr N0 B i) :: rest.map (tv (adr N0 B)) := by
    show (As.reverse ++ Value.ref i :: rest).map (tv (adr N0 B)) = _
    rw [List.map_append, List.map_reverse]
    rfl
  have hp : PreV s H yc.1.cls (adr N0 B i) (PI N0 B D ca tys h (.ref i :: As)) (As.map (tv (adr N0 B))) := ⟨PI_blind, hrc, PI_at (vs := .ref i :: As) c7 c1.2.2.2.2.2.2.2.2 (Nat.le_trans c5 c6.1)⟩
  have hrun : va_Run p l e R s m args below meth c H locs cells slots kc nc (F0 m pc ls ((As.reverse ++ Value.ref i :: rest).map (tv (adr N0 B)))) (rest.map (tv (adr N0 B))) (EQ N0 B D Qc (Value.ref (adr N0 B i) :: As.map (tv (adr N0 B))).toArray) (AA N0) := by
    rcases g8 with g8 | ⟨host, g8⟩
    · exact va_runV ⟨c1.1, c1.2.1, c1.2.2.2.1, c1.2.2.2.2.1, hts⟩ hM ⟨callB_of np hts (gt_good yc g1) rfl rfl rfl (hts _ g2) (hts _ g8) g4 hR, hts _ g6, hts _ g7⟩ hp rfl (by rw [List.length_map]; exact hnp) c8.1 hstk hW8 hd hroom
    · exact va_runVN ⟨c1.1, c1.2.1, c1.2.2.2.1, c1.2.2.2.2.1, hts⟩ hM ⟨va_cnB np hts (gt_good yc g1) rfl rfl rfl (c1.2.2.2.2.2.2.2.2.1 _ _ _ _ g8) (hts _ g2) g4 hR, hts _ g6, hts _ g7⟩ hp rfl (by rw [List.length_map]; exact hnp) c8.1 hstk hW8 hd hroom
  refine run_go hrun c6 (fun r h' ca' tys' H' locs' hq' hI' hS' => ?_)
  have K2 := K r h' hq' p l e R s m args below meth c H' locs' (cells + kc) (slots + nc) mc ms N0 B D ca' tys' ls c1 c2 (by omega) (by omega) c5 hS' hI' c8
  rw [List.map_append] at K2
  cases r <;> exact K2
theorem E_callS {yc : MI} {idx np dc kc nc : Nat} {Qc : Option Value → HP → Prop} (As rest : List Value) (hd : decode y.2.1 pc = .ok (.invokestatic idx, 3)) (ok : okS y.1.cls idx yc np) (hst : st = As.reverse ++ rest) (hnp : As.length = np) (hl : (lg_sl As).length ≤ yc.2.2.1) (hw : (rest.map fun v => v.category).sum ≤ 8) (hC : EM yc dc kc nc As h Qc) (hdc : dc + 1 ≤ d) (hk : kc ≤ k) (hn : nc ≤ n) (K : ∀ r h', Qc r h' → E y d (k - kc) (n - nc) (pc + 3) lv (r.toList ++ rest) h' Q) : E y d k n pc lv st h Q := by
  intro p l e R s m args below meth c H locs cells slots mc ms N0 B D ca tys ls c1 c2 c3 c4 c5 c6 c7 c8
  obtain ⟨⟨g1, g2, g3, g4, g5⟩, g6, g8⟩ := ok
  have hts := c1.2.2.2.2.2.1
  have hM := met_of_E hC g3 hl l N0 B D ca tys
  subst hst
  have hR : dc + 1 ≤ R.frames ∧ 8 + (yc.2.2.1 + 11) + 40 * dc ≤ R.locals := ⟨Nat.le_trans hdc c2.1, by have := c2.2.1; omega⟩
  have hroom : cells + kc ≤ R.cells ∧ slots + nc ≤ R.slots := ⟨by have := c2.2.2.1; omega, by have := c2.2.2.2; omega⟩
  have hW8 : 2 * (F0 m pc ls ((As.reverse ++ rest).map (tv (adr N0 B)))).monitorRoom + ((rest.map (tv (adr N0 B))).map fun v => v.category).sum ≤ 8 := lv_room (by rw [cat_map]; exact hw)
  have hstk : (F0 m pc ls ((As.reverse ++ rest).map (tv (adr N0 B)))).stack = (As.map (tv (adr N0 B))).reverse ++ rest.map (tv (adr N0 B)) := by
    show (As.reverse ++ rest).map (tv (adr N0 B)) = _
    rw [List.map_append, List.map_reverse]
  have hp : PreS s H (PI N0 B D ca tys h As) (As.map (tv (adr N0 B))) := ⟨PI_blind, PI_at c7 c1.2.2.2.2.2.2.2.2 (Nat.le_trans c5 c6.1)⟩
  have hrun : va_Run p l e R s m args below meth c H locs cells slots kc nc (F0 m pc ls ((As.reverse ++ rest).map (tv (adr N0 B)))) (rest.map (tv (adr N0 B))) (EQ N0 B D Qc (As.map (tv (adr N0 B))).toArray) (AA N0) := by
    rcases g8 with g8 | ⟨host, g8⟩
    · exact va_runS ⟨c1.1, c1.2.1, c1.2.2.2.1, c1.2.2.2.2.1, hts⟩ hM ⟨callB_of np hts (gt_good yc g1) rfl rfl rfl (hts _ g2) (hts _ g8) g4 hR, hts _ g6⟩ hp rfl (by rw [List.length_map]; exact hnp) c8.1 hstk hW8 hd hroom
    · exact va_runSN ⟨c1.1, c1.2.1, c1.2.2.2.1, c1.2.2.2.2.1, hts⟩ hM ⟨va_cnB np hts (gt_good yc g1) rfl rfl rfl (c1.2.2.2.2.2.2.2.2.1 _ _ _ _ g8) (hts _ g2) g4 hR, hts _ g6, trivial⟩ hp rfl (by rw [List.length_map]; exact hnp) c8.1 hstk hW8 hd hroom
  refine run_go hrun c6 (fun r h' ca' tys' H' locs' hq' hI' hS' => ?_)
  have K2 := K r h' hq' p l e R s m args below meth c H' locs' (cells + kc) (slots + nc) mc ms N0 B D ca' tys' ls c1 c2 (by omega) (by omega) c5 hS' hI' c8
  rw [List.map_append] at K2
  cases r <;> exact K2
theorem E_callI {yc : MI} {idx np i dc kc nc : Nat} {Qc : Option Value → HP → Prop} (As rest : List Value) (hd : decode y.2.1 pc = .ok (.invokespecial idx, 3)) (ok : okI y.1.cls idx yc np) (hst : st = As.reverse ++ .ref i :: rest) (hnp : As.length = np) (hl : (lg_sl (.ref i :: As)).length ≤ yc.2.2.1) (hw : (rest.map fun v => v.category).sum ≤ 8) (hC : EM yc dc kc nc (.ref i :: As) h Qc) (hdc : dc + 1 ≤ d) (hk : kc ≤ k) (hn : nc ≤ n) (K : ∀ r h', Qc r h' → E y d (k - kc) (n - nc) (pc + 3) lv (r.toList ++ rest) h' Q) : E y d k n pc lv st h Q := by
  intro p l e R s m args below meth c H locs cells slots mc ms N0 B D ca tys ls c1 c2 c3 c4 c5 c6 c7 c8
  obtain ⟨⟨g1, g2, g3, g4, g5⟩, g9, g10, g6, g8⟩ := ok
  have hts := c1.2.2.2.2.2.1
  have hM := met_of_E hC g3 hl l N0 B D ca tys
  have hG := gt_good yc g1
  rw [g9] at hM hG
  subst hst
  have hR : dc + 1 ≤ R.frames ∧ 8 + (yc.2.2.1 + 11) + 40 * dc ≤ R.locals := ⟨Nat.le_trans hdc c2.1, by have := c2.2.1; omega⟩
  have hroom : cells + kc ≤ R.cells ∧ slots + nc ≤ R.slots := ⟨by have := c2.2.2.1; omega, by have := c2.2.2.2; omega⟩
  have hW8 : 2 * (F0 m pc ls ((As.reverse ++ Value.ref i :: rest).map (tv (adr N0 B)))).monitorRoom + ((rest.map (tv (adr N0 B))).map fun v => v.category).sum ≤ 8 := lv_room (by rw [cat_map]; exact hw)
  have hstk : (F0 m pc ls ((As.reverse ++ Value.ref i :: rest).map (tv (adr N0 B)))).stack = (As.map (tv (adr N0 B))).reverse ++ .ref (adr N0 B i) :: rest.map (tv (adr N0 B)) := by
    show (As.reverse ++ Value.ref i :: rest).map (tv (adr N0 B)) = _
    rw [List.map_append, List.map_reverse]
    rfl
  have hp : PreS s H (PI N0 B D ca tys h (.ref i :: As)) (.ref (adr N0 B i) :: As.map (tv (adr N0 B))) := ⟨PI_blind, PI_at (vs := .ref i :: As) c7 c1.2.2.2.2.2.2.2.2 (Nat.le_trans c5 c6.1)⟩
  have hrun : va_Run p l e R s m args below meth c H locs cells slots kc nc (F0 m pc ls ((As.reverse ++ Value.ref i :: rest).map (tv (adr N0 B)))) (rest.map (tv (adr N0 B))) (EQ N0 B D Qc (Value.ref (adr N0 B i) :: As.map (tv (adr N0 B))).toArray) (AA N0) := by
    rcases g8 with g8 | ⟨host, g8⟩
    · exact va_runI ⟨c1.1, c1.2.1, c1.2.2.2.1, c1.2.2.2.2.1, hts⟩ hM ⟨callB_of np hts hG rfl rfl rfl (hts _ g2) (hts _ g8) g4 hR, g10, hts _ g6⟩ hp rfl (by rw [List.length_map]; exact hnp) c8.1 hstk hW8 hd hroom
    · exact va_runIN ⟨c1.1, c1.2.1, c1.2.2.2.1, c1.2.2.2.2.1, hts⟩ hM ⟨va_cnB np hts hG rfl rfl rfl (c1.2.2.2.2.2.2.2.2.1 _ _ _ _ g8) (hts _ g2) g4 hR, g10, hts _ g6⟩ hp rfl (by rw [List.length_map]; exact hnp) c8.1 hstk hW8 hd hroom
  refine run_go hrun c6 (fun r h' ca' tys' H' locs' hq' hI' hS' => ?_)
  have K2 := K r h' hq' p l e R s m args below meth c H' locs' (cells + kc) (slots + nc) mc ms N0 B D ca' tys' ls c1 c2 (by omega) (by omega) c5 hS' hI' c8
  rw [List.map_append] at K2
  cases r <;> exact K2
end EC
end
section
/-! METHODS BY NAME, AND THE LINKS of fields, classes and calls: generated by wip/tools/genlinks.py -/
abbrev mBook_init : MI := (yX0_init, cX0_init, 1, none)
abbrev mDesk_within : MI := (yX10_within, cX10_within, 3, (some .boolean))
abbrev mDesk_isLetter : MI := (yX10_isLetter, cX10_isLetter, 1, (some .boolean))
abbrev mTape_lettersAlone : MI := (yX8_lettersAlone, cX8_lettersAlone, 2, (some .boolean))
abbrev mTape_isWord : MI := (yX8_isWord, cX8_isWord, 1, (some .boolean))
abbrev mTape_size : MI := (yX8_size, cX8_size, 1, (some .int))
abbrev mBook_has : MI := (yX0_has, cX0_has, 2, (some .boolean))
abbrev mBook_sizeOf : MI := (yX0_sizeOf, cX0_sizeOf, 2, (some .int))
abbrev mBook_signOf : MI := (yX0_signOf, cX0_signOf, 3, (some .int))
abbrev mBook_beginsWith : MI := (yX0_beginsWith, cX0_beginsWith, 5, (some .boolean))
abbrev mBook_find : MI := (yX0_find, cX0_find, 4, (some .int))
abbrev mTape_signAt : MI := (yX8_signAt, cX8_signAt, 2, (some .int))
abbrev mBook_add : MI := (yX0_add, cX0_add, 4, (some .int))
abbrev mBook_take : MI := (yX0_take, cX0_take, 4, (some .int))
abbrev mBook_size : MI := (yX0_size, cX0_size, 1, (some .int))
abbrev mBook_timesOf : MI := (yX0_timesOf, cX0_timesOf, 2, (some .int))
abbrev mChain_init : MI := (yX1_init, cX1_init, 3, none)
abbrev mChain_without : MI := (yX1_without, cX1_without, 4, (some (.object "SwitchDesk$Chain")))
abbrev mChain_signAt : MI := (yX1_signAt, cX1_signAt, 2, (some .int))
abbrev mFinder_init : MI := (yX2_init, cX2_init, 4, none)
abbrev mSheet_written : MI := (yX7_written, cX7_written, 3, (some .int))
abbrev mSheet_copyLast : MI := (yX7_copyLast, cX7_copyLast, 5, none)
abbrev mFinder_readWritten : MI := (yX2_readWritten, cX2_readWritten, 2, (some .int))
abbrev mFinder_isBetter : MI := (yX2_isBetter, cX2_isBetter, 4, (some .boolean))
abbrev mFinder_enlist : MI := (yX2_enlist, cX2_enlist, 4, none)
abbrev mFinder_seekForeseen : MI := (yX2_seekForeseen, cX2_seekForeseen, 3, none)
abbrev mTray_areNeighbours : MI := (yX9_areNeighbours, cX9_areNeighbours, 3, (some .boolean))
abbrev mFinder_slipsOf : MI := (yX2_slipsOf, cX2_slipsOf, 6, (some .int))
abbrev mFinder_seekOffered : MI := (yX2_seekOffered, cX2_seekOffered, 4, none)
abbrev mFinder_found : MI := (yX2_found, cX2_found, 1, (some .int))
abbrev mFinder_foundAt : MI := (yX2_foundAt, cX2_foundAt, 2, (some .int))
abbrev mTray_has : MI := (yX9_has, cX9_has, 2, (some .boolean))
abbrev mTray_firstIn : MI := (yX9_firstIn, cX9_firstIn, 2, (some .int))
abbrev mLamp_comeTo : MI := (yX3_comeTo, cX3_comeTo, 2, none)
abbrev mLamp_init : MI := (yX3_init, cX3_init, 3, none)
abbrev mNumbers_get : MI := (yX4_get, cX4_get, 2, (some .int))
abbrev mTray_behind : MI := (yX9_behind, cX9_behind, 2, (some .int))
abbrev mLamp_change : MI := (yX3_change, cX3_change, 2, none)
abbrev mLamp_pass : MI := (yX3_pass, cX3_pass, 5, (some .int))
abbrev mLamp_take : MI := (yX3_take, cX3_take, 2, (some .int))
abbrev mLamp_tell : MI := (yX3_tell, cX3_tell, 2, (some .int))
abbrev mNumbers_init : MI := (yX4_init, cX4_init, 1, none)
abbrev mNumbers_change : MI := (yX4_change, cX4_change, 3, (some .boolean))
abbrev mPlan_init : MI := (yX5_init, cX5_init, 3, none)
abbrev mShares_shareOf : MI := (yX6_shareOf, cX6_shareOf, 2, (some .int))
abbrev mPlan_isPart : MI := (yX5_isPart, cX5_isPart, 2, (some .boolean))
abbrev mPlan_leastOf : MI := (yX5_leastOf, cX5_leastOf, 3, (some .int))
abbrev mPlan_sumOf : MI := (yX5_sumOf, cX5_sumOf, 3, (some .int))
abbrev mPlan_costWith : MI := (yX5_costWith, cX5_costWith, 5, (some .int))
abbrev mPlan_firstEnd : MI := (yX5_firstEnd, cX5_firstEnd, 7, (some .int))
abbrev mPlan_solve : MI := (yX5_solve, cX5_solve, 6, (some .int))
abbrev mTray_groupOf : MI := (yX9_groupOf, cX9_groupOf, 2, (some .int))
abbrev mPlan_openAt : MI := (yX5_openAt, cX5_openAt, 6, (some .int))
abbrev mTray_kindOf : MI := (yX9_kindOf, cX9_kindOf, 2, (some .int))
abbrev mTray_hasValue : MI := (yX9_hasValue, cX9_hasValue, 1, (some .boolean))
abbrev mTray_takes : MI := (yX9_takes, cX9_takes, 2, (some .boolean))
abbrev mTray_add : MI := (yX9_add, cX9_add, 4, (some .int))
abbrev mPlan_build : MI := (yX5_build, cX5_build, 7, none)
abbrev mShares_init : MI := (yX6_init, cX6_init, 3, none)
abbrev mShares_change : MI := (yX6_change, cX6_change, 3, (some .boolean))
abbrev mTray_placeOf : MI := (yX9_placeOf, cX9_placeOf, 2, (some .int))
abbrev mShares_costOf : MI := (yX6_costOf, cX6_costOf, 5, (some .int))
abbrev mArrays_fill : MI := (yJ7_fill_53178, cJ7_fill_53178, 4, none)
abbrev mTray_size : MI := (yX9_size, cX9_size, 1, (some .int))
abbrev mTray_valueOf : MI := (yX9_valueOf, cX9_valueOf, 2, (some .int))
abbrev mShares_findLeasts : MI := (yX6_findLeasts, cX6_findLeasts, 5, none)
abbrev mShares_commonDivisor : MI := (yX6_commonDivisor, cX6_commonDivisor, 11, (some .long))
abbrev mShares_meanPart : MI := (yX6_meanPart, cX6_meanPart, 8, (some .long))
abbrev mSheet_init : MI := (yX7_init, cX7_init, 1, none)
abbrev mSheet_part : MI := (yX7_part, cX7_part, 2, (some (.object "SwitchDesk$Chain")))
abbrev mSheet_undoable : MI := (yX7_undoable, cX7_undoable, 1, (some .int))
abbrev mSheet_keep : MI := (yX7_keep, cX7_keep, 2, none)
abbrev mSheet_write : MI := (yX7_write, cX7_write, 2, none)
abbrev mSheet_dropLast : MI := (yX7_dropLast, cX7_dropLast, 1, none)
abbrev mSheet_speak : MI := (yX7_speak, cX7_speak, 1, none)
abbrev mSheet_complete : MI := (yX7_complete, cX7_complete, 7, none)
abbrev mSheet_takeBack : MI := (yX7_takeBack, cX7_takeBack, 2, none)
abbrev mTape_init : MI := (yX8_init, cX8_init, 1, none)
abbrev mTape_fedByte : MI := (yX8_fedByte, cX8_fedByte, 4, (some .int))
abbrev mTape_take : MI := (yX8_take, cX8_take, 6, (some .int))
abbrev mTape_cut : MI := (yX8_cut, cX8_cut, 2, (some .boolean))
abbrev mTape_isRow : MI := (yX8_isRow, cX8_isRow, 4, (some .boolean))
abbrev mTray_empty : MI := (yX9_empty, cX9_empty, 1, none)
abbrev mTray_findLighted : MI := (yX9_findLighted, cX9_findLighted, 2, none)
abbrev mTray_join : MI := (yX9_join, cX9_join, 5, none)
abbrev mTray_standBehind : MI := (yX9_standBehind, cX9_standBehind, 4, none)
abbrev mTray_findLights : MI := (yX9_findLights, cX9_findLights, 2, none)
abbrev mTray_init : MI := (yX9_init, cX9_init, 1, none)
abbrev mTray_lightsOf : MI := (yX9_lightsOf, cX9_lightsOf, 2, (some .int))
abbrev mDesk_init : MI := (yX10_init, cX10_init, 1, none)
abbrev mDesk_showTrayAnew : MI := (yX10_showTrayAnew, cX10_showTrayAnew, 1, none)
abbrev mDesk_node : MI := (yX10_node, cX10_node, 5, (some .int))
abbrev mDesk_clear : MI := (yX10_clear, cX10_clear, 1, none)
abbrev mDesk_told : MI := (yX10_told, cX10_told, 3, (some .int))
abbrev mDesk_set : MI := (yX10_set, cX10_set, 3, (some .boolean))
abbrev mDesk_tick : MI := (yX10_tick, cX10_tick, 2, (some .int))
abbrev mDesk_act : MI := (yX10_act, cX10_act, 3, none)
abbrev mDesk_press : MI := (yX10_press, cX10_press, 2, (some .int))
abbrev mDesk_state : MI := (yX10_state, cX10_state, 2, (some .int))
abbrev mDesk_length : MI := (yX10_length, cX10_length, 3, (some .int))
abbrev mDesk_at : MI := (yX10_at, cX10_at, 4, (some .int))
abbrev mDesk_feed : MI := (yX10_feed, cX10_feed, 3, (some .int))
abbrev mDesk_end : MI := (yX10_end, cX10_end, 2, (some .boolean))
abbrev mDesk_word : MI := (yX10_word, cX10_word, 3, (some .int))
abbrev mDesk_letter : MI := (yX10_letter, cX10_letter, 3, (some .int))
abbrev mDesk_foreseen : MI := (yX10_foreseen, cX10_foreseen, 2, (some .int))
abbrev mDesk_offered : MI := (yX10_offered, cX10_offered, 2, (some .int))
abbrev mDesk_near : MI := (yX10_near, cX10_near, 3, (some .int))
abbrev mDesk_share : MI := (yX10_share, cX10_share, 3, (some .boolean))
abbrev mDesk_cost : MI := (yX10_cost, cX10_cost, 2, (some .int))
abbrev mDesk_mean : MI := (yX10_mean, cX10_mean, 2, (some .long))
abbrev mDesk_lay : MI := (yX10_lay, cX10_lay, 2, (some .int))
abbrev mDesk_count : MI := (yX10_count, cX10_count, 2, (some .int))
abbrev mMod_looks : MI := (yX11_looks, cX11_looks, 3, none)
abbrev mMod_init : MI := (yX11_init, cX11_init, 1, none)
abbrev mMod_thrown : MI := (yX11_thrown, cX11_thrown, 1, (some .int))
abbrev mMod_isIn : MI := (yX11_isIn, cX11_isIn, 3, (some .boolean))
abbrev mMod_isNode : MI := (yX11_isNode, cX11_isNode, 2, (some .boolean))
abbrev mMod_isSmall : MI := (yX11_isSmall, cX11_isSmall, 1, (some .boolean))
abbrev mMod_hasKey : MI := (yX11_hasKey, cX11_hasKey, 2, (some .boolean))
abbrev mMod_light : MI := (yX11_light, cX11_light, 3, (some .int))
abbrev mMod_lights : MI := (yX11_lights, cX11_lights, 2, (some .int))
abbrev mMod_placeOf : MI := (yX11_placeOf, cX11_placeOf, 2, (some .int))
abbrev mMod_comes : MI := (yX11_comes, cX11_comes, 2, none)
abbrev mMod_adds : MI := (yX11_adds, cX11_adds, 4, (some .int))
abbrev mMod_node : MI := (yX11_node, cX11_node, 5, (some .int))
abbrev mMod_clear : MI := (yX11_clear, cX11_clear, 1, none)
abbrev mMod_told : MI := (yX11_told, cX11_told, 3, (some .int))
abbrev mMod_set : MI := (yX11_set, cX11_set, 5, (some .boolean))
abbrev mMod_ticks : MI := (yX11_ticks, cX11_ticks, 2, none)
abbrev mMod_tick : MI := (yX11_tick, cX11_tick, 3, (some .int))
abbrev mMod_keep : MI := (yX11_keep, cX11_keep, 2, none)
abbrev mMod_put : MI := (yX11_put, cX11_put, 2, none)
abbrev mMod_undo : MI := (yX11_undo, cX11_undo, 2, none)
abbrev mMod_written : MI := (yX11_written, cX11_written, 2, (some .int))
abbrev mMod_ranked : MI := (yX11_ranked, cX11_ranked, 5, (some .int))
abbrev mMod_foreseenAt : MI := (yX11_foreseenAt, cX11_foreseenAt, 6, (some .int))
abbrev mMod_areNear : MI := (yX11_areNear, cX11_areNear, 5, (some .boolean))
abbrev mMod_offeredAt : MI := (yX11_offeredAt, cX11_offeredAt, 10, (some .int))
abbrev mMod_acts : MI := (yX11_acts, cX11_acts, 5, none)
abbrev mMod_press : MI := (yX11_press, cX11_press, 3, (some .int))
abbrev mMod_state : MI := (yX11_state, cX11_state, 2, (some .int))
abbrev mMod_length : MI := (yX11_length, cX11_length, 2, (some .int))
abbrev mMod_at : MI := (yX11_at, cX11_at, 3, (some .int))
abbrev mMod_bytesIn : MI := (yX11_bytesIn, cX11_bytesIn, 3, (some .int))
abbrev mMod_feed : MI := (yX11_feed, cX11_feed, 6, (some .int))
abbrev mMod_end : MI := (yX11_end, cX11_end, 2, (some .boolean))
abbrev mMod_isRow : MI := (yX11_isRow, cX11_isRow, 3, (some .boolean))
abbrev mMod_isWord : MI := (yX11_isWord, cX11_isWord, 4, (some .boolean))
abbrev mMod_word : MI := (yX11_word, cX11_word, 4, (some .int))
abbrev mMod_letter : MI := (yX11_letter, cX11_letter, 3, (some .int))
abbrev mMod_near : MI := (yX11_near, cX11_near, 3, (some .int))
abbrev mMod_foreseen : MI := (yX11_foreseen, cX11_foreseen, 2, (some .int))
abbrev mMod_offered : MI := (yX11_offered, cX11_offered, 2, (some .int))
abbrev mMod_share : MI := (yX11_share, cX11_share, 3, (some .boolean))
abbrev mMod_costOf : MI := (yX11_costOf, cX11_costOf, 4, (some .int))
abbrev mMod_cost : MI := (yX11_cost, cX11_cost, 2, (some .int))
abbrev mMod_mean : MI := (yX11_mean, cX11_mean, 12, (some .long))
abbrev mMod_weight : MI := (yX11_weight, cX11_weight, 6, (some .long))
abbrev mMod_index : MI := (yX11_index, cX11_index, 3, (some .int))
abbrev mMod_item : MI := (yX11_item, cX11_item, 4, (some .long))
abbrev mMod_sums : MI := (yX11_sums, cX11_sums, 9, none)
abbrev mMod_lays : MI := (yX11_lays, cX11_lays, 13, none)
abbrev mMod_lay : MI := (yX11_lay, cX11_lay, 3, (some .int))
abbrev mMod_count : MI := (yX11_count, cX11_count, 3, (some .int))
abbrev mMath_max : MI := (yJ9_max_7cf53, cJ9_max_7cf53, 2, (some .int))
abbrev mMath_min : MI := (yJ9_min_7cf53, cJ9_min_7cf53, 2, (some .int))
abbrev mMath_lmin : MI := (yJ9_min_f86c9, cJ9_min_f86c9, 4, (some .long))
abbrev mLaw_law : MI := (yL_law, cL_law, 7, ret)
abbrev mLaw_at : MI := (yL_at, cL_at, 5, some .int)
abbrev mLaw_letter : MI := (yL_letter, cL_letter, 5, some .int)
theorem lay_good (C : String) (T : u_T) (j : Nat) : goodWord (u_lay C T j) = true := by
  unfold u_lay
  split <;> rfl
theorem lays_in {C : String} {T : u_T} {N : Nat} (h : ∀ w ∈ u_ws C T N, w ∈ lw_tbl) : ∀ w ∈ u_ws C T N, w ∈ GT := fun w hw => by
  obtain ⟨j, -, rfl⟩ := List.mem_map.mp hw
  exact List.mem_filter.mpr ⟨h _ hw, lay_good C T j⟩
theorem nst_in {w : Cond} (i : Nat) (h : tables_1[i]? = some w) : w ∈ lw_tbl := List.mem_append_right _ (List.mem_of_getElem? h)
theorem ly_X0 : ∀ w ∈ u_ws RX0 TX0 4, w ∈ GT := lays_in (by decide +kernel)
theorem oc_X0 : okC 0 tyX0 := fun C T N hc => by
  have h9 : (RX0, TX0, 4) = (C, T, N) := Option.some.inj hc
  cases h9
  exact ⟨nmX0, tyX0_ok⟩
theorem ly_X1 : ∀ w ∈ u_ws RX1 TX1 3, w ∈ GT := lays_in (by decide +kernel)
theorem oc_X1 : okC 1 tyX1 := fun C T N hc => by
  have h9 : (RX1, TX1, 3) = (C, T, N) := Option.some.inj hc
  cases h9
  exact ⟨nmX1, tyX1_ok⟩
theorem ly_X2 : ∀ w ∈ u_ws RX2 TX2 7, w ∈ GT := lays_in (by decide +kernel)
theorem oc_X2 : okC 2 tyX2 := fun C T N hc => by
  have h9 : (RX2, TX2, 7) = (C, T, N) := Option.some.inj hc
  cases h9
  exact ⟨nmX2, tyX2_ok⟩
theorem ly_X3 : ∀ w ∈ u_ws RX3 TX3 10, w ∈ GT := lays_in (by decide +kernel)
theorem oc_X3 : okC 3 tyX3 := fun C T N hc => by
  have h9 : (RX3, TX3, 10) = (C, T, N) := Option.some.inj hc
  cases h9
  exact ⟨nmX3, tyX3_ok⟩
theorem ly_X4 : ∀ w ∈ u_ws RX4 TX4 1, w ∈ GT := lays_in (by decide +kernel)
theorem oc_X4 : okC 4 tyX4 := fun C T N hc => by
  have h9 : (RX4, TX4, 1) = (C, T, N) := Option.some.inj hc
  cases h9
  exact ⟨nmX4, tyX4_ok⟩
theorem ly_X5 : ∀ w ∈ u_ws RX5 TX5 5, w ∈ GT := lays_in (by decide +kernel)
theorem oc_X5 : okC 5 tyX5 := fun C T N hc => by
  have h9 : (RX5, TX5, 5) = (C, T, N) := Option.some.inj hc
  cases h9
  exact ⟨nmX5, tyX5_ok⟩
theorem ly_X6 : ∀ w ∈ u_ws RX6 TX6 4, w ∈ GT := lays_in (by decide +kernel)
theorem oc_X6 : okC 6 tyX6 := fun C T N hc => by
  have h9 : (RX6, TX6, 4) = (C, T, N) := Option.some.inj hc
  cases h9
  exact ⟨nmX6, tyX6_ok⟩
theorem ly_X7 : ∀ w ∈ u_ws RX7 TX7 7, w ∈ GT := lays_in (by decide +kernel)
theorem oc_X7 : okC 7 tyX7 := fun C T N hc => by
  have h9 : (RX7, TX7, 7) = (C, T, N) := Option.some.inj hc
  cases h9
  exact ⟨nmX7, tyX7_ok⟩
theorem ly_X8 : ∀ w ∈ u_ws RX8 TX8 2, w ∈ GT := lays_in (by decide +kernel)
theorem oc_X8 : okC 8 tyX8 := fun C T N hc => by
  have h9 : (RX8, TX8, 2) = (C, T, N) := Option.some.inj hc
  cases h9
  exact ⟨nmX8, tyX8_ok⟩
theorem ly_X9 : ∀ w ∈ u_ws RX9 TX9 11, w ∈ GT := lays_in (by decide +kernel)
theorem oc_X9 : okC 9 tyX9 := fun C T N hc => by
  have h9 : (RX9, TX9, 11) = (C, T, N) := Option.some.inj hc
  cases h9
  exact ⟨nmX9, tyX9_ok⟩
theorem ly_X10 : ∀ w ∈ u_ws RX10 TX10 9, w ∈ GT := lays_in (by decide +kernel)
theorem oc_X10 : okC 10 tyX10 := fun C T N hc => by
  have h9 : (RX10, TX10, 9) = (C, T, N) := Option.some.inj hc
  cases h9
  exact ⟨nmX10, tyX10_ok⟩
theorem ly_X11 : ∀ w ∈ u_ws RX11 TX11 38, w ∈ GT := lays_in (by decide +kernel)
theorem oc_X11 : okC 11 tyX11 := fun C T N hc => by
  have h9 : (RX11, TX11, 38) = (C, T, N) := Option.some.inj hc
  cases h9
  exact ⟨nmX11, tyX11_ok⟩
theorem nw_L_19 : okW RL 19 11 38 tyX11 := ⟨RX11, TX11, rfl, ly_X11, oc_X11, gt_in 818 (by decide +kernel) rfl, gt_in 819 (by decide +kernel) rfl, gt_in 13 (by decide +kernel) rfl⟩
theorem nw_L_8 : okW RL 8 10 9 tyX10 := ⟨RX10, TX10, rfl, ly_X10, oc_X10, gt_in 19 (by decide +kernel) rfl, gt_in 20 (by decide +kernel) rfl, gt_in 1 (by decide +kernel) rfl⟩
theorem fl_X0_11 : okF RX0 11 0 0 := ⟨RX0, TX0, 4, rfl, by decide, ly_X0, gt_in 223 (by decide +kernel) rfl⟩
theorem fl_X0_15 : okF RX0 15 0 1 := ⟨RX0, TX0, 4, rfl, by decide, ly_X0, gt_in 224 (by decide +kernel) rfl⟩
theorem fl_X0_18 : okF RX0 18 0 2 := ⟨RX0, TX0, 4, rfl, by decide, ly_X0, gt_in 225 (by decide +kernel) rfl⟩
theorem fl_X0_31 : okN RX0 31 8 0 := ⟨RX8, TX8, 2, "SwitchDesk", rfl, by decide, ly_X8, nst_in 210 (by decide +kernel)⟩
theorem fl_X0_48 : okF RX0 48 0 3 := ⟨RX0, TX0, 4, rfl, by decide, ly_X0, gt_in 226 (by decide +kernel) rfl⟩
theorem ob_X0_3 : Cond.methodLink RX0 3 Lib.objectInit ∈ GT := gt_in 222 (by decide +kernel) rfl
theorem fp_X0_11 : okP RX0 11 0 0 (.array .int) true := ⟨RX0, TX0, 4, tyX0, rfl, by decide, ly_X0, gt_in 223 (by decide +kernel) rfl, oc_X0, rfl, rfl, fun _ => rfl⟩
theorem fp_X0_15 : okP RX0 15 0 1 (.array .int) true := ⟨RX0, TX0, 4, tyX0, rfl, by decide, ly_X0, gt_in 224 (by decide +kernel) rfl, oc_X0, rfl, rfl, fun _ => rfl⟩
theorem fp_X0_18 : okP RX0 18 0 2 (.array .int) true := ⟨RX0, TX0, 4, tyX0, rfl, by decide, ly_X0, gt_in 225 (by decide +kernel) rfl, oc_X0, rfl, rfl, fun _ => rfl⟩
theorem fp_X0_48 : okP RX0 48 0 3 .int false := ⟨RX0, TX0, 4, tyX0, rfl, by decide, ly_X0, gt_in 226 (by decide +kernel) rfl, oc_X0, rfl, rfl, fun _ => rfl⟩
theorem fl_X1_13 : okF RX1 13 1 1 := ⟨RX1, TX1, 3, rfl, by decide, ly_X1, gt_in 168 (by decide +kernel) rfl⟩
theorem fl_X1_17 : okF RX1 17 1 2 := ⟨RX1, TX1, 3, rfl, by decide, ly_X1, gt_in 170 (by decide +kernel) rfl⟩
theorem fl_X1_7 : okF RX1 7 1 0 := ⟨RX1, TX1, 3, rfl, by decide, ly_X1, gt_in 166 (by decide +kernel) rfl⟩
theorem ob_X1_1 : Cond.methodLink RX1 1 Lib.objectInit ∈ GT := gt_in 165 (by decide +kernel) rfl
theorem fp_X1_13 : okP RX1 13 1 1 .int true := ⟨RX1, TX1, 3, tyX1, rfl, by decide, ly_X1, gt_in 168 (by decide +kernel) rfl, oc_X1, rfl, rfl, fun _ => rfl⟩
theorem fp_X1_17 : okP RX1 17 1 2 .int true := ⟨RX1, TX1, 3, tyX1, rfl, by decide, ly_X1, gt_in 170 (by decide +kernel) rfl, oc_X1, rfl, rfl, fun _ => rfl⟩
theorem fp_X1_7 : okP RX1 7 1 0 (.object "SwitchDesk$Chain") true := ⟨RX1, TX1, 3, tyX1, rfl, by decide, ly_X1, gt_in 166 (by decide +kernel) rfl, oc_X1, rfl, rfl, fun _ => rfl⟩
theorem fl_X10_10 : okF RX10 10 10 0 := ⟨RX10, TX10, 9, rfl, by decide, ly_X10, gt_in 305 (by decide +kernel) rfl⟩
theorem fl_X10_136 : okF RX10 136 1 2 := ⟨RX1, TX1, 3, rfl, by decide, ly_X1, gt_in 172 (by decide +kernel) rfl⟩
theorem fl_X10_19 : okF RX10 19 10 1 := ⟨RX10, TX10, 9, rfl, by decide, ly_X10, gt_in 306 (by decide +kernel) rfl⟩
theorem fl_X10_28 : okF RX10 28 10 2 := ⟨RX10, TX10, 9, rfl, by decide, ly_X10, gt_in 307 (by decide +kernel) rfl⟩
theorem fl_X10_35 : okF RX10 35 10 3 := ⟨RX10, TX10, 9, rfl, by decide, ly_X10, gt_in 308 (by decide +kernel) rfl⟩
theorem fl_X10_42 : okF RX10 42 10 4 := ⟨RX10, TX10, 9, rfl, by decide, ly_X10, gt_in 309 (by decide +kernel) rfl⟩
theorem fl_X10_49 : okF RX10 49 10 5 := ⟨RX10, TX10, 9, rfl, by decide, ly_X10, gt_in 310 (by decide +kernel) rfl⟩
theorem fl_X10_58 : okF RX10 58 10 6 := ⟨RX10, TX10, 9, rfl, by decide, ly_X10, gt_in 311 (by decide +kernel) rfl⟩
theorem fl_X10_65 : okF RX10 65 10 7 := ⟨RX10, TX10, 9, rfl, by decide, ly_X10, gt_in 312 (by decide +kernel) rfl⟩
theorem fl_X10_74 : okF RX10 74 10 8 := ⟨RX10, TX10, 9, rfl, by decide, ly_X10, gt_in 313 (by decide +kernel) rfl⟩
theorem ob_X10_1 : Cond.methodLink RX10 1 Lib.objectInit ∈ GT := gt_in 24 (by decide +kernel) rfl
theorem nw_X10_16 : okW RX10 16 9 11 tyX9 := ⟨RX9, TX9, rfl, ly_X9, oc_X9, gt_in 38 (by decide +kernel) rfl, gt_in 39 (by decide +kernel) rfl, gt_in 3 (by decide +kernel) rfl⟩
theorem nw_X10_23 : okW RX10 23 3 10 tyX3 := ⟨RX3, TX3, rfl, ly_X3, oc_X3, gt_in 109 (by decide +kernel) rfl, gt_in 110 (by decide +kernel) rfl, gt_in 5 (by decide +kernel) rfl⟩
theorem nw_X10_32 : okW RX10 32 7 7 tyX7 := ⟨RX7, TX7, rfl, ly_X7, oc_X7, gt_in 154 (by decide +kernel) rfl, gt_in 155 (by decide +kernel) rfl, gt_in 6 (by decide +kernel) rfl⟩
theorem nw_X10_39 : okW RX10 39 8 2 tyX8 := ⟨RX8, TX8, rfl, ly_X8, oc_X8, gt_in 203 (by decide +kernel) rfl, gt_in 204 (by decide +kernel) rfl, gt_in 8 (by decide +kernel) rfl⟩
theorem nw_X10_46 : okW RX10 46 0 4 tyX0 := ⟨RX0, TX0, rfl, ly_X0, oc_X0, gt_in 217 (by decide +kernel) rfl, gt_in 218 (by decide +kernel) rfl, gt_in 9 (by decide +kernel) rfl⟩
theorem nw_X10_53 : okW RX10 53 2 7 tyX2 := ⟨RX2, TX2, rfl, ly_X2, oc_X2, gt_in 236 (by decide +kernel) rfl, gt_in 237 (by decide +kernel) rfl, gt_in 10 (by decide +kernel) rfl⟩
theorem nw_X10_62 : okW RX10 62 6 4 tyX6 := ⟨RX6, TX6, rfl, ly_X6, oc_X6, gt_in 264 (by decide +kernel) rfl, gt_in 265 (by decide +kernel) rfl, gt_in 11 (by decide +kernel) rfl⟩
theorem nw_X10_69 : okW RX10 69 5 5 tyX5 := ⟨RX5, TX5, rfl, ly_X5, oc_X5, gt_in 283 (by decide +kernel) rfl, gt_in 284 (by decide +kernel) rfl, gt_in 12 (by decide +kernel) rfl⟩
theorem nw_X10_7 : okW RX10 7 4 1 tyX4 := ⟨RX4, TX4, rfl, ly_X4, oc_X4, gt_in 27 (by decide +kernel) rfl, gt_in 28 (by decide +kernel) rfl, gt_in 2 (by decide +kernel) rfl⟩
theorem fp_X10_10 : okP RX10 10 10 0 (.object "SwitchDesk$Numbers") true := ⟨RX10, TX10, 9, tyX10, rfl, by decide, ly_X10, gt_in 305 (by decide +kernel) rfl, oc_X10, rfl, rfl, fun _ => rfl⟩
theorem fp_X10_19 : okP RX10 19 10 1 (.object "SwitchDesk$Tray") true := ⟨RX10, TX10, 9, tyX10, rfl, by decide, ly_X10, gt_in 306 (by decide +kernel) rfl, oc_X10, rfl, rfl, fun _ => rfl⟩
theorem fp_X10_28 : okP RX10 28 10 2 (.object "SwitchDesk$Lamp") true := ⟨RX10, TX10, 9, tyX10, rfl, by decide, ly_X10, gt_in 307 (by decide +kernel) rfl, oc_X10, rfl, rfl, fun _ => rfl⟩
theorem fp_X10_35 : okP RX10 35 10 3 (.object "SwitchDesk$Sheet") true := ⟨RX10, TX10, 9, tyX10, rfl, by decide, ly_X10, gt_in 308 (by decide +kernel) rfl, oc_X10, rfl, rfl, fun _ => rfl⟩
theorem fp_X10_42 : okP RX10 42 10 4 (.object "SwitchDesk$Tape") true := ⟨RX10, TX10, 9, tyX10, rfl, by decide, ly_X10, gt_in 309 (by decide +kernel) rfl, oc_X10, rfl, rfl, fun _ => rfl⟩
theorem fp_X10_49 : okP RX10 49 10 5 (.object "SwitchDesk$Book") true := ⟨RX10, TX10, 9, tyX10, rfl, by decide, ly_X10, gt_in 310 (by decide +kernel) rfl, oc_X10, rfl, rfl, fun _ => rfl⟩
theorem fp_X10_58 : okP RX10 58 10 6 (.object "SwitchDesk$Finder") true := ⟨RX10, TX10, 9, tyX10, rfl, by decide, ly_X10, gt_in 311 (by decide +kernel) rfl, oc_X10, rfl, rfl, fun _ => rfl⟩
theorem fp_X10_65 : okP RX10 65 10 7 (.object "SwitchDesk$Shares") true := ⟨RX10, TX10, 9, tyX10, rfl, by decide, ly_X10, gt_in 312 (by decide +kernel) rfl, oc_X10, rfl, rfl, fun _ => rfl⟩
theorem fp_X10_74 : okP RX10 74 10 8 (.object "SwitchDesk$Plan") true := ⟨RX10, TX10, 9, tyX10, rfl, by decide, ly_X10, gt_in 313 (by decide +kernel) rfl, oc_X10, rfl, rfl, fun _ => rfl⟩
theorem fl_X11_101 : okF RX11 101 11 11 := ⟨RX11, TX11, 38, rfl, by decide, ly_X11, gt_in 839 (by decide +kernel) rfl⟩
theorem fl_X11_104 : okF RX11 104 11 12 := ⟨RX11, TX11, 38, rfl, by decide, ly_X11, gt_in 840 (by decide +kernel) rfl⟩
theorem fl_X11_107 : okF RX11 107 11 10 := ⟨RX11, TX11, 38, rfl, by decide, ly_X11, gt_in 838 (by decide +kernel) rfl⟩
theorem fl_X11_110 : okF RX11 110 11 14 := ⟨RX11, TX11, 38, rfl, by decide, ly_X11, gt_in 842 (by decide +kernel) rfl⟩
theorem fl_X11_113 : okF RX11 113 11 15 := ⟨RX11, TX11, 38, rfl, by decide, ly_X11, gt_in 843 (by decide +kernel) rfl⟩
theorem fl_X11_13 : okF RX11 13 11 2 := ⟨RX11, TX11, 38, rfl, by decide, ly_X11, gt_in 830 (by decide +kernel) rfl⟩
theorem fl_X11_150 : okF RX11 150 11 16 := ⟨RX11, TX11, 38, rfl, by decide, ly_X11, gt_in 844 (by decide +kernel) rfl⟩
theorem fl_X11_156 : okF RX11 156 11 26 := ⟨RX11, TX11, 38, rfl, by decide, ly_X11, gt_in 854 (by decide +kernel) rfl⟩
theorem fl_X11_159 : okF RX11 159 11 24 := ⟨RX11, TX11, 38, rfl, by decide, ly_X11, gt_in 852 (by decide +kernel) rfl⟩
theorem fl_X11_16 : okF RX11 16 11 3 := ⟨RX11, TX11, 38, rfl, by decide, ly_X11, gt_in 831 (by decide +kernel) rfl⟩
theorem fl_X11_181 : okF RX11 181 11 31 := ⟨RX11, TX11, 38, rfl, by decide, ly_X11, gt_in 859 (by decide +kernel) rfl⟩
theorem fl_X11_19 : okF RX11 19 11 4 := ⟨RX11, TX11, 38, rfl, by decide, ly_X11, gt_in 832 (by decide +kernel) rfl⟩
theorem fl_X11_191 : okF RX11 191 11 32 := ⟨RX11, TX11, 38, rfl, by decide, ly_X11, gt_in 860 (by decide +kernel) rfl⟩
theorem fl_X11_22 : okF RX11 22 11 5 := ⟨RX11, TX11, 38, rfl, by decide, ly_X11, gt_in 833 (by decide +kernel) rfl⟩
theorem fl_X11_26 : okF RX11 26 11 6 := ⟨RX11, TX11, 38, rfl, by decide, ly_X11, gt_in 834 (by decide +kernel) rfl⟩
theorem fl_X11_30 : okF RX11 30 11 7 := ⟨RX11, TX11, 38, rfl, by decide, ly_X11, gt_in 835 (by decide +kernel) rfl⟩
theorem fl_X11_33 : okF RX11 33 11 8 := ⟨RX11, TX11, 38, rfl, by decide, ly_X11, gt_in 836 (by decide +kernel) rfl⟩
theorem fl_X11_36 : okF RX11 36 11 9 := ⟨RX11, TX11, 38, rfl, by decide, ly_X11, gt_in 837 (by decide +kernel) rfl⟩
theorem fl_X11_39 : okF RX11 39 11 13 := ⟨RX11, TX11, 38, rfl, by decide, ly_X11, gt_in 841 (by decide +kernel) rfl⟩
theorem fl_X11_42 : okF RX11 42 11 17 := ⟨RX11, TX11, 38, rfl, by decide, ly_X11, gt_in 845 (by decide +kernel) rfl⟩
theorem fl_X11_45 : okF RX11 45 11 18 := ⟨RX11, TX11, 38, rfl, by decide, ly_X11, gt_in 846 (by decide +kernel) rfl⟩
theorem fl_X11_49 : okF RX11 49 11 19 := ⟨RX11, TX11, 38, rfl, by decide, ly_X11, gt_in 847 (by decide +kernel) rfl⟩
theorem fl_X11_52 : okF RX11 52 11 20 := ⟨RX11, TX11, 38, rfl, by decide, ly_X11, gt_in 848 (by decide +kernel) rfl⟩
theorem fl_X11_55 : okF RX11 55 11 21 := ⟨RX11, TX11, 38, rfl, by decide, ly_X11, gt_in 849 (by decide +kernel) rfl⟩
theorem fl_X11_58 : okF RX11 58 11 22 := ⟨RX11, TX11, 38, rfl, by decide, ly_X11, gt_in 850 (by decide +kernel) rfl⟩
theorem fl_X11_61 : okF RX11 61 11 23 := ⟨RX11, TX11, 38, rfl, by decide, ly_X11, gt_in 851 (by decide +kernel) rfl⟩
theorem fl_X11_64 : okF RX11 64 11 25 := ⟨RX11, TX11, 38, rfl, by decide, ly_X11, gt_in 853 (by decide +kernel) rfl⟩
theorem fl_X11_67 : okF RX11 67 11 27 := ⟨RX11, TX11, 38, rfl, by decide, ly_X11, gt_in 855 (by decide +kernel) rfl⟩
theorem fl_X11_70 : okF RX11 70 11 28 := ⟨RX11, TX11, 38, rfl, by decide, ly_X11, gt_in 856 (by decide +kernel) rfl⟩
theorem fl_X11_73 : okF RX11 73 11 29 := ⟨RX11, TX11, 38, rfl, by decide, ly_X11, gt_in 857 (by decide +kernel) rfl⟩
theorem fl_X11_76 : okF RX11 76 11 30 := ⟨RX11, TX11, 38, rfl, by decide, ly_X11, gt_in 858 (by decide +kernel) rfl⟩
theorem fl_X11_79 : okF RX11 79 11 33 := ⟨RX11, TX11, 38, rfl, by decide, ly_X11, gt_in 861 (by decide +kernel) rfl⟩
theorem fl_X11_82 : okF RX11 82 11 34 := ⟨RX11, TX11, 38, rfl, by decide, ly_X11, gt_in 862 (by decide +kernel) rfl⟩
theorem fl_X11_85 : okF RX11 85 11 35 := ⟨RX11, TX11, 38, rfl, by decide, ly_X11, gt_in 863 (by decide +kernel) rfl⟩
theorem fl_X11_89 : okF RX11 89 11 36 := ⟨RX11, TX11, 38, rfl, by decide, ly_X11, gt_in 864 (by decide +kernel) rfl⟩
theorem fl_X11_9 : okF RX11 9 11 1 := ⟨RX11, TX11, 38, rfl, by decide, ly_X11, gt_in 829 (by decide +kernel) rfl⟩
theorem fl_X11_92 : okF RX11 92 11 37 := ⟨RX11, TX11, 38, rfl, by decide, ly_X11, gt_in 865 (by decide +kernel) rfl⟩
theorem fl_X11_98 : okF RX11 98 11 0 := ⟨RX11, TX11, 38, rfl, by decide, ly_X11, gt_in 828 (by decide +kernel) rfl⟩
theorem ob_X11_3 : Cond.methodLink RX11 3 Lib.objectInit ∈ GT := gt_in 823 (by decide +kernel) rfl
theorem fp_X11_101 : okP RX11 101 11 11 .int false := ⟨RX11, TX11, 38, tyX11, rfl, by decide, ly_X11, gt_in 839 (by decide +kernel) rfl, oc_X11, rfl, rfl, fun _ => rfl⟩
theorem fp_X11_104 : okP RX11 104 11 12 .int false := ⟨RX11, TX11, 38, tyX11, rfl, by decide, ly_X11, gt_in 840 (by decide +kernel) rfl, oc_X11, rfl, rfl, fun _ => rfl⟩
theorem fp_X11_107 : okP RX11 107 11 10 .int false := ⟨RX11, TX11, 38, tyX11, rfl, by decide, ly_X11, gt_in 838 (by decide +kernel) rfl, oc_X11, rfl, rfl, fun _ => rfl⟩
theorem fp_X11_110 : okP RX11 110 11 14 .int false := ⟨RX11, TX11, 38, tyX11, rfl, by decide, ly_X11, gt_in 842 (by decide +kernel) rfl, oc_X11, rfl, rfl, fun _ => rfl⟩
theorem fp_X11_113 : okP RX11 113 11 15 .int false := ⟨RX11, TX11, 38, tyX11, rfl, by decide, ly_X11, gt_in 843 (by decide +kernel) rfl, oc_X11, rfl, rfl, fun _ => rfl⟩
theorem fp_X11_13 : okP RX11 13 11 2 (.array .int) true := ⟨RX11, TX11, 38, tyX11, rfl, by decide, ly_X11, gt_in 830 (by decide +kernel) rfl, oc_X11, rfl, rfl, fun _ => rfl⟩
theorem fp_X11_150 : okP RX11 150 11 16 .int false := ⟨RX11, TX11, 38, tyX11, rfl, by decide, ly_X11, gt_in 844 (by decide +kernel) rfl, oc_X11, rfl, rfl, fun _ => rfl⟩
theorem fp_X11_156 : okP RX11 156 11 26 .int false := ⟨RX11, TX11, 38, tyX11, rfl, by decide, ly_X11, gt_in 854 (by decide +kernel) rfl, oc_X11, rfl, rfl, fun _ => rfl⟩
theorem fp_X11_159 : okP RX11 159 11 24 .int false := ⟨RX11, TX11, 38, tyX11, rfl, by decide, ly_X11, gt_in 852 (by decide +kernel) rfl, oc_X11, rfl, rfl, fun _ => rfl⟩
theorem fp_X11_16 : okP RX11 16 11 3 (.array .int) true := ⟨RX11, TX11, 38, tyX11, rfl, by decide, ly_X11, gt_in 831 (by decide +kernel) rfl, oc_X11, rfl, rfl, fun _ => rfl⟩
theorem fp_X11_181 : okP RX11 181 11 31 .int false := ⟨RX11, TX11, 38, tyX11, rfl, by decide, ly_X11, gt_in 859 (by decide +kernel) rfl, oc_X11, rfl, rfl, fun _ => rfl⟩
theorem fp_X11_19 : okP RX11 19 11 4 (.array .int) true := ⟨RX11, TX11, 38, tyX11, rfl, by decide, ly_X11, gt_in 832 (by decide +kernel) rfl, oc_X11, rfl, rfl, fun _ => rfl⟩
theorem fp_X11_191 : okP RX11 191 11 32 .int false := ⟨RX11, TX11, 38, tyX11, rfl, by decide, ly_X11, gt_in 860 (by decide +kernel) rfl, oc_X11, rfl, rfl, fun _ => rfl⟩
theorem fp_X11_22 : okP RX11 22 11 5 .int false := ⟨RX11, TX11, 38, tyX11, rfl, by decide, ly_X11, gt_in 833 (by decide +kernel) rfl, oc_X11, rfl, rfl, fun _ => rfl⟩
theorem fp_X11_26 : okP RX11 26 11 6 (.array .boolean) true := ⟨RX11, TX11, 38, tyX11, rfl, by decide, ly_X11, gt_in 834 (by decide +kernel) rfl, oc_X11, rfl, rfl, fun _ => rfl⟩
theorem fp_X11_30 : okP RX11 30 11 7 (.array .int) true := ⟨RX11, TX11, 38, tyX11, rfl, by decide, ly_X11, gt_in 835 (by decide +kernel) rfl, oc_X11, rfl, rfl, fun _ => rfl⟩
theorem fp_X11_33 : okP RX11 33 11 8 (.array .int) true := ⟨RX11, TX11, 38, tyX11, rfl, by decide, ly_X11, gt_in 836 (by decide +kernel) rfl, oc_X11, rfl, rfl, fun _ => rfl⟩
theorem fp_X11_36 : okP RX11 36 11 9 (.array .int) true := ⟨RX11, TX11, 38, tyX11, rfl, by decide, ly_X11, gt_in 837 (by decide +kernel) rfl, oc_X11, rfl, rfl, fun _ => rfl⟩
theorem fp_X11_39 : okP RX11 39 11 13 .int false := ⟨RX11, TX11, 38, tyX11, rfl, by decide, ly_X11, gt_in 841 (by decide +kernel) rfl, oc_X11, rfl, rfl, fun _ => rfl⟩
theorem fp_X11_42 : okP RX11 42 11 17 .int false := ⟨RX11, TX11, 38, tyX11, rfl, by decide, ly_X11, gt_in 845 (by decide +kernel) rfl, oc_X11, rfl, rfl, fun _ => rfl⟩
theorem fp_X11_45 : okP RX11 45 11 18 (.array .byte) true := ⟨RX11, TX11, 38, tyX11, rfl, by decide, ly_X11, gt_in 846 (by decide +kernel) rfl, oc_X11, rfl, rfl, fun _ => rfl⟩
theorem fp_X11_49 : okP RX11 49 11 19 (.array .byte) true := ⟨RX11, TX11, 38, tyX11, rfl, by decide, ly_X11, gt_in 847 (by decide +kernel) rfl, oc_X11, rfl, rfl, fun _ => rfl⟩
theorem fp_X11_52 : okP RX11 52 11 20 (.array .byte) true := ⟨RX11, TX11, 38, tyX11, rfl, by decide, ly_X11, gt_in 848 (by decide +kernel) rfl, oc_X11, rfl, rfl, fun _ => rfl⟩
theorem fp_X11_55 : okP RX11 55 11 21 (.array .byte) true := ⟨RX11, TX11, 38, tyX11, rfl, by decide, ly_X11, gt_in 849 (by decide +kernel) rfl, oc_X11, rfl, rfl, fun _ => rfl⟩
theorem fp_X11_58 : okP RX11 58 11 22 (.array .int) true := ⟨RX11, TX11, 38, tyX11, rfl, by decide, ly_X11, gt_in 850 (by decide +kernel) rfl, oc_X11, rfl, rfl, fun _ => rfl⟩
theorem fp_X11_61 : okP RX11 61 11 23 (.array .int) true := ⟨RX11, TX11, 38, tyX11, rfl, by decide, ly_X11, gt_in 851 (by decide +kernel) rfl, oc_X11, rfl, rfl, fun _ => rfl⟩
theorem fp_X11_64 : okP RX11 64 11 25 .int false := ⟨RX11, TX11, 38, tyX11, rfl, by decide, ly_X11, gt_in 853 (by decide +kernel) rfl, oc_X11, rfl, rfl, fun _ => rfl⟩
theorem fp_X11_67 : okP RX11 67 11 27 (.array .byte) true := ⟨RX11, TX11, 38, tyX11, rfl, by decide, ly_X11, gt_in 855 (by decide +kernel) rfl, oc_X11, rfl, rfl, fun _ => rfl⟩
theorem fp_X11_70 : okP RX11 70 11 28 (.array .byte) true := ⟨RX11, TX11, 38, tyX11, rfl, by decide, ly_X11, gt_in 856 (by decide +kernel) rfl, oc_X11, rfl, rfl, fun _ => rfl⟩
theorem fp_X11_73 : okP RX11 73 11 29 (.array .int) true := ⟨RX11, TX11, 38, tyX11, rfl, by decide, ly_X11, gt_in 857 (by decide +kernel) rfl, oc_X11, rfl, rfl, fun _ => rfl⟩
theorem fp_X11_76 : okP RX11 76 11 30 (.array .int) true := ⟨RX11, TX11, 38, tyX11, rfl, by decide, ly_X11, gt_in 858 (by decide +kernel) rfl, oc_X11, rfl, rfl, fun _ => rfl⟩
theorem fp_X11_79 : okP RX11 79 11 33 (.array .int) true := ⟨RX11, TX11, 38, tyX11, rfl, by decide, ly_X11, gt_in 861 (by decide +kernel) rfl, oc_X11, rfl, rfl, fun _ => rfl⟩
theorem fp_X11_82 : okP RX11 82 11 34 (.array .int) true := ⟨RX11, TX11, 38, tyX11, rfl, by decide, ly_X11, gt_in 862 (by decide +kernel) rfl, oc_X11, rfl, rfl, fun _ => rfl⟩
theorem fp_X11_85 : okP RX11 85 11 35 (.array .long) true := ⟨RX11, TX11, 38, tyX11, rfl, by decide, ly_X11, gt_in 863 (by decide +kernel) rfl, oc_X11, rfl, rfl, fun _ => rfl⟩
theorem fp_X11_89 : okP RX11 89 11 36 (.array .long) true := ⟨RX11, TX11, 38, tyX11, rfl, by decide, ly_X11, gt_in 864 (by decide +kernel) rfl, oc_X11, rfl, rfl, fun _ => rfl⟩
theorem fp_X11_9 : okP RX11 9 11 1 (.array .int) true := ⟨RX11, TX11, 38, tyX11, rfl, by decide, ly_X11, gt_in 829 (by decide +kernel) rfl, oc_X11, rfl, rfl, fun _ => rfl⟩
theorem fp_X11_92 : okP RX11 92 11 37 (.array .byte) true := ⟨RX11, TX11, 38, tyX11, rfl, by decide, ly_X11, gt_in 865 (by decide +kernel) rfl, oc_X11, rfl, rfl, fun _ => rfl⟩
theorem fp_X11_98 : okP RX11 98 11 0 .int false := ⟨RX11, TX11, 38, tyX11, rfl, by decide, ly_X11, gt_in 828 (by decide +kernel) rfl, oc_X11, rfl, rfl, fun _ => rfl⟩
theorem fl_X2_17 : okF RX2 17 2 4 := ⟨RX2, TX2, 7, rfl, by decide, ly_X2, gt_in 246 (by decide +kernel) rfl⟩
theorem fl_X2_20 : okF RX2 20 2 5 := ⟨RX2, TX2, 7, rfl, by decide, ly_X2, gt_in 247 (by decide +kernel) rfl⟩
theorem fl_X2_23 : okF RX2 23 2 0 := ⟨RX2, TX2, 7, rfl, by decide, ly_X2, gt_in 242 (by decide +kernel) rfl⟩
theorem fl_X2_27 : okF RX2 27 2 1 := ⟨RX2, TX2, 7, rfl, by decide, ly_X2, gt_in 243 (by decide +kernel) rfl⟩
theorem fl_X2_31 : okF RX2 31 2 2 := ⟨RX2, TX2, 7, rfl, by decide, ly_X2, gt_in 244 (by decide +kernel) rfl⟩
theorem fl_X2_35 : okF RX2 35 2 6 := ⟨RX2, TX2, 7, rfl, by decide, ly_X2, gt_in 248 (by decide +kernel) rfl⟩
theorem fl_X2_9 : okF RX2 9 2 3 := ⟨RX2, TX2, 7, rfl, by decide, ly_X2, gt_in 245 (by decide +kernel) rfl⟩
theorem ob_X2_3 : Cond.methodLink RX2 3 Lib.objectInit ∈ GT := gt_in 241 (by decide +kernel) rfl
theorem fp_X2_17 : okP RX2 17 2 4 (.array .int) true := ⟨RX2, TX2, 7, tyX2, rfl, by decide, ly_X2, gt_in 246 (by decide +kernel) rfl, oc_X2, rfl, rfl, fun _ => rfl⟩
theorem fp_X2_20 : okP RX2 20 2 5 (.array .int) true := ⟨RX2, TX2, 7, tyX2, rfl, by decide, ly_X2, gt_in 247 (by decide +kernel) rfl, oc_X2, rfl, rfl, fun _ => rfl⟩
theorem fp_X2_23 : okP RX2 23 2 0 (.object "SwitchDesk$Book") true := ⟨RX2, TX2, 7, tyX2, rfl, by decide, ly_X2, gt_in 242 (by decide +kernel) rfl, oc_X2, rfl, rfl, fun _ => rfl⟩
theorem fp_X2_27 : okP RX2 27 2 1 (.object "SwitchDesk$Tray") true := ⟨RX2, TX2, 7, tyX2, rfl, by decide, ly_X2, gt_in 243 (by decide +kernel) rfl, oc_X2, rfl, rfl, fun _ => rfl⟩
theorem fp_X2_31 : okP RX2 31 2 2 (.object "SwitchDesk$Sheet") true := ⟨RX2, TX2, 7, tyX2, rfl, by decide, ly_X2, gt_in 244 (by decide +kernel) rfl, oc_X2, rfl, rfl, fun _ => rfl⟩
theorem fp_X2_35 : okP RX2 35 2 6 .int false := ⟨RX2, TX2, 7, tyX2, rfl, by decide, ly_X2, gt_in 248 (by decide +kernel) rfl, oc_X2, rfl, rfl, fun _ => rfl⟩
theorem fp_X2_9 : okP RX2 9 2 3 (.array .int) true := ⟨RX2, TX2, 7, tyX2, rfl, by decide, ly_X2, gt_in 245 (by decide +kernel) rfl, oc_X2, rfl, rfl, fun _ => rfl⟩
theorem fl_X3_15 : okF RX3 15 3 1 := ⟨RX3, TX3, 10, rfl, by decide, ly_X3, gt_in 124 (by decide +kernel) rfl⟩
theorem fl_X3_23 : okF RX3 23 3 3 := ⟨RX3, TX3, 10, rfl, by decide, ly_X3, gt_in 126 (by decide +kernel) rfl⟩
theorem fl_X3_33 : okF RX3 33 3 4 := ⟨RX3, TX3, 10, rfl, by decide, ly_X3, gt_in 127 (by decide +kernel) rfl⟩
theorem fl_X3_36 : okF RX3 36 3 5 := ⟨RX3, TX3, 10, rfl, by decide, ly_X3, gt_in 128 (by decide +kernel) rfl⟩
theorem fl_X3_39 : okF RX3 39 3 2 := ⟨RX3, TX3, 10, rfl, by decide, ly_X3, gt_in 125 (by decide +kernel) rfl⟩
theorem fl_X3_42 : okF RX3 42 3 6 := ⟨RX3, TX3, 10, rfl, by decide, ly_X3, gt_in 129 (by decide +kernel) rfl⟩
theorem fl_X3_45 : okF RX3 45 3 7 := ⟨RX3, TX3, 10, rfl, by decide, ly_X3, gt_in 130 (by decide +kernel) rfl⟩
theorem fl_X3_70 : okF RX3 70 3 8 := ⟨RX3, TX3, 10, rfl, by decide, ly_X3, gt_in 131 (by decide +kernel) rfl⟩
theorem fl_X3_73 : okF RX3 73 3 9 := ⟨RX3, TX3, 10, rfl, by decide, ly_X3, gt_in 132 (by decide +kernel) rfl⟩
theorem fl_X3_9 : okF RX3 9 3 0 := ⟨RX3, TX3, 10, rfl, by decide, ly_X3, gt_in 123 (by decide +kernel) rfl⟩
theorem ob_X3_3 : Cond.methodLink RX3 3 Lib.objectInit ∈ GT := gt_in 114 (by decide +kernel) rfl
theorem fp_X3_15 : okP RX3 15 3 1 (.object "SwitchDesk$Numbers") true := ⟨RX3, TX3, 10, tyX3, rfl, by decide, ly_X3, gt_in 124 (by decide +kernel) rfl, oc_X3, rfl, rfl, fun _ => rfl⟩
theorem fp_X3_23 : okP RX3 23 3 3 .int false := ⟨RX3, TX3, 10, tyX3, rfl, by decide, ly_X3, gt_in 126 (by decide +kernel) rfl, oc_X3, rfl, rfl, fun _ => rfl⟩
theorem fp_X3_33 : okP RX3 33 3 4 .int false := ⟨RX3, TX3, 10, tyX3, rfl, by decide, ly_X3, gt_in 127 (by decide +kernel) rfl, oc_X3, rfl, rfl, fun _ => rfl⟩
theorem fp_X3_36 : okP RX3 36 3 5 .int false := ⟨RX3, TX3, 10, tyX3, rfl, by decide, ly_X3, gt_in 128 (by decide +kernel) rfl, oc_X3, rfl, rfl, fun _ => rfl⟩
theorem fp_X3_39 : okP RX3 39 3 2 .int false := ⟨RX3, TX3, 10, tyX3, rfl, by decide, ly_X3, gt_in 125 (by decide +kernel) rfl, oc_X3, rfl, rfl, fun _ => rfl⟩
theorem fp_X3_42 : okP RX3 42 3 6 .int false := ⟨RX3, TX3, 10, tyX3, rfl, by decide, ly_X3, gt_in 129 (by decide +kernel) rfl, oc_X3, rfl, rfl, fun _ => rfl⟩
theorem fp_X3_45 : okP RX3 45 3 7 .int false := ⟨RX3, TX3, 10, tyX3, rfl, by decide, ly_X3, gt_in 130 (by decide +kernel) rfl, oc_X3, rfl, rfl, fun _ => rfl⟩
theorem fp_X3_70 : okP RX3 70 3 8 .int false := ⟨RX3, TX3, 10, tyX3, rfl, by decide, ly_X3, gt_in 131 (by decide +kernel) rfl, oc_X3, rfl, rfl, fun _ => rfl⟩
theorem fp_X3_73 : okP RX3 73 3 9 .int false := ⟨RX3, TX3, 10, tyX3, rfl, by decide, ly_X3, gt_in 132 (by decide +kernel) rfl, oc_X3, rfl, rfl, fun _ => rfl⟩
theorem fp_X3_9 : okP RX3 9 3 0 (.object "SwitchDesk$Tray") true := ⟨RX3, TX3, 10, tyX3, rfl, by decide, ly_X3, gt_in 123 (by decide +kernel) rfl, oc_X3, rfl, rfl, fun _ => rfl⟩
theorem fl_X4_9 : okF RX4 9 4 0 := ⟨RX4, TX4, 1, rfl, by decide, ly_X4, gt_in 33 (by decide +kernel) rfl⟩
theorem ob_X4_3 : Cond.methodLink RX4 3 Lib.objectInit ∈ GT := gt_in 32 (by decide +kernel) rfl
theorem fp_X4_9 : okP RX4 9 4 0 (.array .int) true := ⟨RX4, TX4, 1, tyX4, rfl, by decide, ly_X4, gt_in 33 (by decide +kernel) rfl, oc_X4, rfl, rfl, fun _ => rfl⟩
theorem fl_X5_13 : okF RX5 13 5 2 := ⟨RX5, TX5, 5, rfl, by decide, ly_X5, gt_in 291 (by decide +kernel) rfl⟩
theorem fl_X5_17 : okF RX5 17 5 3 := ⟨RX5, TX5, 5, rfl, by decide, ly_X5, gt_in 292 (by decide +kernel) rfl⟩
theorem fl_X5_22 : okF RX5 22 5 4 := ⟨RX5, TX5, 5, rfl, by decide, ly_X5, gt_in 293 (by decide +kernel) rfl⟩
theorem fl_X5_25 : okF RX5 25 5 0 := ⟨RX5, TX5, 5, rfl, by decide, ly_X5, gt_in 289 (by decide +kernel) rfl⟩
theorem fl_X5_29 : okF RX5 29 5 1 := ⟨RX5, TX5, 5, rfl, by decide, ly_X5, gt_in 290 (by decide +kernel) rfl⟩
theorem ob_X5_5 : Cond.methodLink RX5 5 Lib.objectInit ∈ GT := gt_in 288 (by decide +kernel) rfl
theorem fp_X5_13 : okP RX5 13 5 2 (.array .int) true := ⟨RX5, TX5, 5, tyX5, rfl, by decide, ly_X5, gt_in 291 (by decide +kernel) rfl, oc_X5, rfl, rfl, fun _ => rfl⟩
theorem fp_X5_17 : okP RX5 17 5 3 (.array .int) true := ⟨RX5, TX5, 5, tyX5, rfl, by decide, ly_X5, gt_in 292 (by decide +kernel) rfl, oc_X5, rfl, rfl, fun _ => rfl⟩
theorem fp_X5_22 : okP RX5 22 5 4 (.array .int) true := ⟨RX5, TX5, 5, tyX5, rfl, by decide, ly_X5, gt_in 293 (by decide +kernel) rfl, oc_X5, rfl, rfl, fun _ => rfl⟩
theorem fp_X5_25 : okP RX5 25 5 0 (.object "SwitchDesk$Tape") true := ⟨RX5, TX5, 5, tyX5, rfl, by decide, ly_X5, gt_in 289 (by decide +kernel) rfl, oc_X5, rfl, rfl, fun _ => rfl⟩
theorem fp_X5_29 : okP RX5 29 5 1 (.object "SwitchDesk$Numbers") true := ⟨RX5, TX5, 5, tyX5, rfl, by decide, ly_X5, gt_in 290 (by decide +kernel) rfl, oc_X5, rfl, rfl, fun _ => rfl⟩
theorem fl_X6_15 : okF RX6 15 6 3 := ⟨RX6, TX6, 4, rfl, by decide, ly_X6, gt_in 273 (by decide +kernel) rfl⟩
theorem fl_X6_18 : okF RX6 18 6 0 := ⟨RX6, TX6, 4, rfl, by decide, ly_X6, gt_in 270 (by decide +kernel) rfl⟩
theorem fl_X6_22 : okF RX6 22 6 1 := ⟨RX6, TX6, 4, rfl, by decide, ly_X6, gt_in 271 (by decide +kernel) rfl⟩
theorem fl_X6_9 : okF RX6 9 6 2 := ⟨RX6, TX6, 4, rfl, by decide, ly_X6, gt_in 272 (by decide +kernel) rfl⟩
theorem ob_X6_3 : Cond.methodLink RX6 3 Lib.objectInit ∈ GT := gt_in 269 (by decide +kernel) rfl
theorem fp_X6_15 : okP RX6 15 6 3 (.array .int) true := ⟨RX6, TX6, 4, tyX6, rfl, by decide, ly_X6, gt_in 273 (by decide +kernel) rfl, oc_X6, rfl, rfl, fun _ => rfl⟩
theorem fp_X6_18 : okP RX6 18 6 0 (.object "SwitchDesk$Tray") true := ⟨RX6, TX6, 4, tyX6, rfl, by decide, ly_X6, gt_in 270 (by decide +kernel) rfl, oc_X6, rfl, rfl, fun _ => rfl⟩
theorem fp_X6_22 : okP RX6 22 6 1 (.object "SwitchDesk$Numbers") true := ⟨RX6, TX6, 4, tyX6, rfl, by decide, ly_X6, gt_in 271 (by decide +kernel) rfl, oc_X6, rfl, rfl, fun _ => rfl⟩
theorem fp_X6_9 : okP RX6 9 6 2 (.array .int) true := ⟨RX6, TX6, 4, tyX6, rfl, by decide, ly_X6, gt_in 272 (by decide +kernel) rfl, oc_X6, rfl, rfl, fun _ => rfl⟩
theorem fl_X7_14 : okF RX7 14 7 0 := ⟨RX7, TX7, 7, rfl, by decide, ly_X7, gt_in 181 (by decide +kernel) rfl⟩
theorem fl_X7_20 : okF RX7 20 7 1 := ⟨RX7, TX7, 7, rfl, by decide, ly_X7, gt_in 182 (by decide +kernel) rfl⟩
theorem fl_X7_24 : okF RX7 24 7 2 := ⟨RX7, TX7, 7, rfl, by decide, ly_X7, gt_in 183 (by decide +kernel) rfl⟩
theorem fl_X7_27 : okF RX7 27 7 5 := ⟨RX7, TX7, 7, rfl, by decide, ly_X7, gt_in 186 (by decide +kernel) rfl⟩
theorem fl_X7_30 : okF RX7 30 7 6 := ⟨RX7, TX7, 7, rfl, by decide, ly_X7, gt_in 187 (by decide +kernel) rfl⟩
theorem fl_X7_33 : okF RX7 33 7 4 := ⟨RX7, TX7, 7, rfl, by decide, ly_X7, gt_in 185 (by decide +kernel) rfl⟩
theorem fl_X7_37 : okF RX7 37 1 0 := ⟨RX1, TX1, 3, rfl, by decide, ly_X1, gt_in 167 (by decide +kernel) rfl⟩
theorem fl_X7_40 : okF RX7 40 1 1 := ⟨RX1, TX1, 3, rfl, by decide, ly_X1, gt_in 169 (by decide +kernel) rfl⟩
theorem fl_X7_47 : okF RX7 47 1 2 := ⟨RX1, TX1, 3, rfl, by decide, ly_X1, gt_in 171 (by decide +kernel) rfl⟩
theorem fl_X7_71 : okF RX7 71 7 3 := ⟨RX7, TX7, 7, rfl, by decide, ly_X7, gt_in 184 (by decide +kernel) rfl⟩
theorem ob_X7_3 : Cond.methodLink RX7 3 Lib.objectInit ∈ GT := gt_in 159 (by decide +kernel) rfl
theorem nw_X7_9 : okW RX7 9 1 3 tyX1 := ⟨RX1, TX1, rfl, ly_X1, oc_X1, gt_in 160 (by decide +kernel) rfl, gt_in 161 (by decide +kernel) rfl, gt_in 7 (by decide +kernel) rfl⟩
theorem fp_X7_14 : okP RX7 14 7 0 (.object "SwitchDesk$Chain") true := ⟨RX7, TX7, 7, tyX7, rfl, by decide, ly_X7, gt_in 181 (by decide +kernel) rfl, oc_X7, rfl, rfl, fun _ => rfl⟩
theorem fp_X7_20 : okP RX7 20 7 1 (.array (.object "SwitchDesk$Chain")) true := ⟨RX7, TX7, 7, tyX7, rfl, by decide, ly_X7, gt_in 182 (by decide +kernel) rfl, oc_X7, rfl, rfl, fun _ => rfl⟩
theorem fp_X7_24 : okP RX7 24 7 2 (.array (.object "SwitchDesk$Chain")) true := ⟨RX7, TX7, 7, tyX7, rfl, by decide, ly_X7, gt_in 183 (by decide +kernel) rfl, oc_X7, rfl, rfl, fun _ => rfl⟩
theorem fp_X7_27 : okP RX7 27 7 5 (.object "SwitchDesk$Chain") false := ⟨RX7, TX7, 7, tyX7, rfl, by decide, ly_X7, gt_in 186 (by decide +kernel) rfl, oc_X7, rfl, rfl, fun _ => rfl⟩
theorem fp_X7_30 : okP RX7 30 7 6 (.object "SwitchDesk$Chain") false := ⟨RX7, TX7, 7, tyX7, rfl, by decide, ly_X7, gt_in 187 (by decide +kernel) rfl, oc_X7, rfl, rfl, fun _ => rfl⟩
theorem fp_X7_33 : okP RX7 33 7 4 .int false := ⟨RX7, TX7, 7, tyX7, rfl, by decide, ly_X7, gt_in 185 (by decide +kernel) rfl, oc_X7, rfl, rfl, fun _ => rfl⟩
theorem fp_X7_71 : okP RX7 71 7 3 .int false := ⟨RX7, TX7, 7, tyX7, rfl, by decide, ly_X7, gt_in 184 (by decide +kernel) rfl, oc_X7, rfl, rfl, fun _ => rfl⟩
theorem fl_X8_11 : okF RX8 11 8 0 := ⟨RX8, TX8, 2, rfl, by decide, ly_X8, gt_in 209 (by decide +kernel) rfl⟩
theorem fl_X8_19 : okF RX8 19 8 1 := ⟨RX8, TX8, 2, rfl, by decide, ly_X8, gt_in 211 (by decide +kernel) rfl⟩
theorem ob_X8_3 : Cond.methodLink RX8 3 Lib.objectInit ∈ GT := gt_in 208 (by decide +kernel) rfl
theorem fp_X8_11 : okP RX8 11 8 0 (.array .int) true := ⟨RX8, TX8, 2, tyX8, rfl, by decide, ly_X8, gt_in 209 (by decide +kernel) rfl, oc_X8, rfl, rfl, fun _ => rfl⟩
theorem fp_X8_19 : okP RX8 19 8 1 .int false := ⟨RX8, TX8, 2, tyX8, rfl, by decide, ly_X8, gt_in 211 (by decide +kernel) rfl, oc_X8, rfl, rfl, fun _ => rfl⟩
theorem fl_X9_11 : okF RX9 11 9 0 := ⟨RX9, TX9, 11, rfl, by decide, ly_X9, gt_in 74 (by decide +kernel) rfl⟩
theorem fl_X9_15 : okF RX9 15 9 1 := ⟨RX9, TX9, 11, rfl, by decide, ly_X9, gt_in 75 (by decide +kernel) rfl⟩
theorem fl_X9_18 : okF RX9 18 9 2 := ⟨RX9, TX9, 11, rfl, by decide, ly_X9, gt_in 76 (by decide +kernel) rfl⟩
theorem fl_X9_21 : okF RX9 21 9 3 := ⟨RX9, TX9, 11, rfl, by decide, ly_X9, gt_in 77 (by decide +kernel) rfl⟩
theorem fl_X9_24 : okF RX9 24 9 4 := ⟨RX9, TX9, 11, rfl, by decide, ly_X9, gt_in 78 (by decide +kernel) rfl⟩
theorem fl_X9_27 : okF RX9 27 9 5 := ⟨RX9, TX9, 11, rfl, by decide, ly_X9, gt_in 79 (by decide +kernel) rfl⟩
theorem fl_X9_30 : okF RX9 30 9 6 := ⟨RX9, TX9, 11, rfl, by decide, ly_X9, gt_in 80 (by decide +kernel) rfl⟩
theorem fl_X9_33 : okF RX9 33 9 7 := ⟨RX9, TX9, 11, rfl, by decide, ly_X9, gt_in 81 (by decide +kernel) rfl⟩
theorem fl_X9_36 : okF RX9 36 9 8 := ⟨RX9, TX9, 11, rfl, by decide, ly_X9, gt_in 82 (by decide +kernel) rfl⟩
theorem fl_X9_40 : okF RX9 40 9 9 := ⟨RX9, TX9, 11, rfl, by decide, ly_X9, gt_in 83 (by decide +kernel) rfl⟩
theorem fl_X9_49 : okF RX9 49 9 10 := ⟨RX9, TX9, 11, rfl, by decide, ly_X9, gt_in 84 (by decide +kernel) rfl⟩
theorem ob_X9_3 : Cond.methodLink RX9 3 Lib.objectInit ∈ GT := gt_in 43 (by decide +kernel) rfl
theorem fp_X9_11 : okP RX9 11 9 0 (.array .int) true := ⟨RX9, TX9, 11, tyX9, rfl, by decide, ly_X9, gt_in 74 (by decide +kernel) rfl, oc_X9, rfl, rfl, fun _ => rfl⟩
theorem fp_X9_15 : okP RX9 15 9 1 (.array .int) true := ⟨RX9, TX9, 11, tyX9, rfl, by decide, ly_X9, gt_in 75 (by decide +kernel) rfl, oc_X9, rfl, rfl, fun _ => rfl⟩
theorem fp_X9_18 : okP RX9 18 9 2 (.array .int) true := ⟨RX9, TX9, 11, tyX9, rfl, by decide, ly_X9, gt_in 76 (by decide +kernel) rfl, oc_X9, rfl, rfl, fun _ => rfl⟩
theorem fp_X9_21 : okP RX9 21 9 3 (.array .int) true := ⟨RX9, TX9, 11, tyX9, rfl, by decide, ly_X9, gt_in 77 (by decide +kernel) rfl, oc_X9, rfl, rfl, fun _ => rfl⟩
theorem fp_X9_24 : okP RX9 24 9 4 (.array .int) true := ⟨RX9, TX9, 11, tyX9, rfl, by decide, ly_X9, gt_in 78 (by decide +kernel) rfl, oc_X9, rfl, rfl, fun _ => rfl⟩
theorem fp_X9_27 : okP RX9 27 9 5 (.array .int) true := ⟨RX9, TX9, 11, tyX9, rfl, by decide, ly_X9, gt_in 79 (by decide +kernel) rfl, oc_X9, rfl, rfl, fun _ => rfl⟩
theorem fp_X9_30 : okP RX9 30 9 6 (.array .int) true := ⟨RX9, TX9, 11, tyX9, rfl, by decide, ly_X9, gt_in 80 (by decide +kernel) rfl, oc_X9, rfl, rfl, fun _ => rfl⟩
theorem fp_X9_33 : okP RX9 33 9 7 (.array .int) true := ⟨RX9, TX9, 11, tyX9, rfl, by decide, ly_X9, gt_in 81 (by decide +kernel) rfl, oc_X9, rfl, rfl, fun _ => rfl⟩
theorem fp_X9_36 : okP RX9 36 9 8 (.array .boolean) true := ⟨RX9, TX9, 11, tyX9, rfl, by decide, ly_X9, gt_in 82 (by decide +kernel) rfl, oc_X9, rfl, rfl, fun _ => rfl⟩
theorem fp_X9_40 : okP RX9 40 9 9 (.array .int) true := ⟨RX9, TX9, 11, tyX9, rfl, by decide, ly_X9, gt_in 83 (by decide +kernel) rfl, oc_X9, rfl, rfl, fun _ => rfl⟩
theorem fp_X9_49 : okP RX9 49 9 10 .int false := ⟨RX9, TX9, 11, tyX9, rfl, by decide, ly_X9, gt_in 84 (by decide +kernel) rfl, oc_X9, rfl, rfl, fun _ => rfl⟩
theorem oy_J7_fill_53178 : okY mArrays_fill 2 := ⟨gt_in 62 (by decide +kernel) rfl, gt_in 4 (by decide +kernel) rfl, by decide +kernel, ⟨by decide +kernel, by decide +kernel, by decide +kernel⟩, by decide⟩
theorem oy_X0_add : okY mBook_add 1 := ⟨gt_in 606 (by decide +kernel) rfl, gt_in 9 (by decide +kernel) rfl, by decide +kernel, ⟨by decide +kernel, by decide +kernel, by decide +kernel⟩, by decide⟩
theorem oy_X0_beginsWith : okY mBook_beginsWith 3 := ⟨gt_in 493 (by decide +kernel) rfl, gt_in 9 (by decide +kernel) rfl, by decide +kernel, ⟨by decide +kernel, by decide +kernel, by decide +kernel⟩, by decide⟩
theorem oy_X0_find : okY mBook_find 2 := ⟨gt_in 529 (by decide +kernel) rfl, gt_in 9 (by decide +kernel) rfl, by decide +kernel, ⟨by decide +kernel, by decide +kernel, by decide +kernel⟩, by decide⟩
theorem oy_X0_has : okY mBook_has 1 := ⟨gt_in 489 (by decide +kernel) rfl, gt_in 9 (by decide +kernel) rfl, by decide +kernel, ⟨by decide +kernel, by decide +kernel, by decide +kernel⟩, by decide⟩
theorem oy_X0_init : okY mBook_init 0 := ⟨gt_in 221 (by decide +kernel) rfl, gt_in 9 (by decide +kernel) rfl, by decide +kernel, ⟨by decide +kernel, by decide +kernel, by decide +kernel⟩, by decide⟩
theorem oy_X0_signOf : okY mBook_signOf 2 := ⟨gt_in 498 (by decide +kernel) rfl, gt_in 9 (by decide +kernel) rfl, by decide +kernel, ⟨by decide +kernel, by decide +kernel, by decide +kernel⟩, by decide⟩
theorem oy_X0_size : okY mBook_size 0 := ⟨gt_in 481 (by decide +kernel) rfl, gt_in 9 (by decide +kernel) rfl, by decide +kernel, ⟨by decide +kernel, by decide +kernel, by decide +kernel⟩, by decide⟩
theorem oy_X0_sizeOf : okY mBook_sizeOf 1 := ⟨gt_in 485 (by decide +kernel) rfl, gt_in 9 (by decide +kernel) rfl, by decide +kernel, ⟨by decide +kernel, by decide +kernel, by decide +kernel⟩, by decide⟩
theorem oy_X0_take : okY mBook_take 2 := ⟨gt_in 587 (by decide +kernel) rfl, gt_in 9 (by decide +kernel) rfl, by decide +kernel, ⟨by decide +kernel, by decide +kernel, by decide +kernel⟩, by decide⟩
theorem oy_X0_timesOf : okY mBook_timesOf 1 := ⟨gt_in 510 (by decide +kernel) rfl, gt_in 9 (by decide +kernel) rfl, by decide +kernel, ⟨by decide +kernel, by decide +kernel, by decide +kernel⟩, by decide⟩
theorem oy_X10_act : okY mDesk_act 1 := ⟨gt_in 436 (by decide +kernel) rfl, gt_in 1 (by decide +kernel) rfl, by decide +kernel, ⟨by decide +kernel, by decide +kernel, by decide +kernel⟩, by decide⟩
theorem oy_X10_at : okY mDesk_at 2 := ⟨gt_in 742 (by decide +kernel) rfl, gt_in 1 (by decide +kernel) rfl, by decide +kernel, ⟨by decide +kernel, by decide +kernel, by decide +kernel⟩, by decide⟩
theorem oy_X10_clear : okY mDesk_clear 0 := ⟨gt_in 363 (by decide +kernel) rfl, gt_in 1 (by decide +kernel) rfl, by decide +kernel, ⟨by decide +kernel, by decide +kernel, by decide +kernel⟩, by decide⟩
theorem oy_X10_cost : okY mDesk_cost 1 := ⟨gt_in 641 (by decide +kernel) rfl, gt_in 1 (by decide +kernel) rfl, by decide +kernel, ⟨by decide +kernel, by decide +kernel, by decide +kernel⟩, by decide⟩
theorem oy_X10_count : okY mDesk_count 1 := ⟨gt_in 726 (by decide +kernel) rfl, gt_in 1 (by decide +kernel) rfl, by decide +kernel, ⟨by decide +kernel, by decide +kernel, by decide +kernel⟩, by decide⟩
theorem oy_X10_end : okY mDesk_end 1 := ⟨gt_in 574 (by decide +kernel) rfl, gt_in 1 (by decide +kernel) rfl, by decide +kernel, ⟨by decide +kernel, by decide +kernel, by decide +kernel⟩, by decide⟩
theorem oy_X10_feed : okY mDesk_feed 2 := ⟨gt_in 563 (by decide +kernel) rfl, gt_in 1 (by decide +kernel) rfl, by decide +kernel, ⟨by decide +kernel, by decide +kernel, by decide +kernel⟩, by decide⟩
theorem oy_X10_foreseen : okY mDesk_foreseen 1 := ⟨gt_in 617 (by decide +kernel) rfl, gt_in 1 (by decide +kernel) rfl, by decide +kernel, ⟨by decide +kernel, by decide +kernel, by decide +kernel⟩, by decide⟩
theorem oy_X10_init : okY mDesk_init 0 := ⟨gt_in 23 (by decide +kernel) rfl, gt_in 1 (by decide +kernel) rfl, by decide +kernel, ⟨by decide +kernel, by decide +kernel, by decide +kernel⟩, by decide⟩
theorem oy_X10_isLetter : okY mDesk_isLetter 1 := ⟨gt_in 73 (by decide +kernel) rfl, gt_in 1 (by decide +kernel) rfl, by decide +kernel, ⟨by decide +kernel, by decide +kernel, by decide +kernel⟩, by decide⟩
theorem oy_X10_lay : okY mDesk_lay 0 := ⟨gt_in 677 (by decide +kernel) rfl, gt_in 1 (by decide +kernel) rfl, by decide +kernel, ⟨by decide +kernel, by decide +kernel, by decide +kernel⟩, by decide⟩
theorem oy_X10_length : okY mDesk_length 1 := ⟨gt_in 555 (by decide +kernel) rfl, gt_in 1 (by decide +kernel) rfl, by decide +kernel, ⟨by decide +kernel, by decide +kernel, by decide +kernel⟩, by decide⟩
theorem oy_X10_letter : okY mDesk_letter 2 := ⟨gt_in 815 (by decide +kernel) rfl, gt_in 1 (by decide +kernel) rfl, by decide +kernel, ⟨by decide +kernel, by decide +kernel, by decide +kernel⟩, by decide⟩
theorem oy_X10_mean : okY mDesk_mean 1 := ⟨gt_in 652 (by decide +kernel) rfl, gt_in 1 (by decide +kernel) rfl, by decide +kernel, ⟨by decide +kernel, by decide +kernel, by decide +kernel⟩, by decide⟩
theorem oy_X10_near : okY mDesk_near 2 := ⟨gt_in 625 (by decide +kernel) rfl, gt_in 1 (by decide +kernel) rfl, by decide +kernel, ⟨by decide +kernel, by decide +kernel, by decide +kernel⟩, by decide⟩
theorem oy_X10_node : okY mDesk_node 3 := ⟨gt_in 336 (by decide +kernel) rfl, gt_in 1 (by decide +kernel) rfl, by decide +kernel, ⟨by decide +kernel, by decide +kernel, by decide +kernel⟩, by decide⟩
theorem oy_X10_offered : okY mDesk_offered 1 := ⟨gt_in 621 (by decide +kernel) rfl, gt_in 1 (by decide +kernel) rfl, by decide +kernel, ⟨by decide +kernel, by decide +kernel, by decide +kernel⟩, by decide⟩
theorem oy_X10_press : okY mDesk_press 0 := ⟨gt_in 428 (by decide +kernel) rfl, gt_in 1 (by decide +kernel) rfl, by decide +kernel, ⟨by decide +kernel, by decide +kernel, by decide +kernel⟩, by decide⟩
theorem oy_X10_set : okY mDesk_set 2 := ⟨gt_in 390 (by decide +kernel) rfl, gt_in 1 (by decide +kernel) rfl, by decide +kernel, ⟨by decide +kernel, by decide +kernel, by decide +kernel⟩, by decide⟩
theorem oy_X10_share : okY mDesk_share 2 := ⟨gt_in 631 (by decide +kernel) rfl, gt_in 1 (by decide +kernel) rfl, by decide +kernel, ⟨by decide +kernel, by decide +kernel, by decide +kernel⟩, by decide⟩
theorem oy_X10_showTrayAnew : okY mDesk_showTrayAnew 0 := ⟨gt_in 357 (by decide +kernel) rfl, gt_in 1 (by decide +kernel) rfl, by decide +kernel, ⟨by decide +kernel, by decide +kernel, by decide +kernel⟩, by decide⟩
theorem oy_X10_state : okY mDesk_state 1 := ⟨gt_in 543 (by decide +kernel) rfl, gt_in 1 (by decide +kernel) rfl, by decide +kernel, ⟨by decide +kernel, by decide +kernel, by decide +kernel⟩, by decide⟩
theorem oy_X10_tick : okY mDesk_tick 1 := ⟨gt_in 403 (by decide +kernel) rfl, gt_in 1 (by decide +kernel) rfl, by decide +kernel, ⟨by decide +kernel, by decide +kernel, by decide +kernel⟩, by decide⟩
theorem oy_X10_told : okY mDesk_told 2 := ⟨gt_in 368 (by decide +kernel) rfl, gt_in 1 (by decide +kernel) rfl, by decide +kernel, ⟨by decide +kernel, by decide +kernel, by decide +kernel⟩, by decide⟩
theorem oy_X10_within : okY mDesk_within 3 := ⟨gt_in 350 (by decide +kernel) rfl, gt_in 1 (by decide +kernel) rfl, by decide +kernel, ⟨by decide +kernel, by decide +kernel, by decide +kernel⟩, by decide⟩
theorem oy_X10_word : okY mDesk_word 1 := ⟨gt_in 583 (by decide +kernel) rfl, gt_in 1 (by decide +kernel) rfl, by decide +kernel, ⟨by decide +kernel, by decide +kernel, by decide +kernel⟩, by decide⟩
theorem oy_X11_acts : okY mMod_acts 1 := ⟨gt_in 1011 (by decide +kernel) rfl, gt_in 13 (by decide +kernel) rfl, by decide +kernel, ⟨by decide +kernel, by decide +kernel, by decide +kernel⟩, by decide⟩
theorem oy_X11_adds : okY mMod_adds 3 := ⟨gt_in 966 (by decide +kernel) rfl, gt_in 13 (by decide +kernel) rfl, by decide +kernel, ⟨by decide +kernel, by decide +kernel, by decide +kernel⟩, by decide⟩
theorem oy_X11_areNear : okY mMod_areNear 2 := ⟨gt_in 1043 (by decide +kernel) rfl, gt_in 13 (by decide +kernel) rfl, by decide +kernel, ⟨by decide +kernel, by decide +kernel, by decide +kernel⟩, by decide⟩
theorem oy_X11_at : okY mMod_at 2 := ⟨gt_in 1055 (by decide +kernel) rfl, gt_in 13 (by decide +kernel) rfl, by decide +kernel, ⟨by decide +kernel, by decide +kernel, by decide +kernel⟩, by decide⟩
theorem oy_X11_bytesIn : okY mMod_bytesIn 1 := ⟨gt_in 1062 (by decide +kernel) rfl, gt_in 13 (by decide +kernel) rfl, by decide +kernel, ⟨by decide +kernel, by decide +kernel, by decide +kernel⟩, by decide⟩
theorem oy_X11_clear : okY mMod_clear 0 := ⟨gt_in 974 (by decide +kernel) rfl, gt_in 13 (by decide +kernel) rfl, by decide +kernel, ⟨by decide +kernel, by decide +kernel, by decide +kernel⟩, by decide⟩
theorem oy_X11_comes : okY mMod_comes 1 := ⟨gt_in 970 (by decide +kernel) rfl, gt_in 13 (by decide +kernel) rfl, by decide +kernel, ⟨by decide +kernel, by decide +kernel, by decide +kernel⟩, by decide⟩
theorem oy_X11_cost : okY mMod_cost 1 := ⟨gt_in 1102 (by decide +kernel) rfl, gt_in 13 (by decide +kernel) rfl, by decide +kernel, ⟨by decide +kernel, by decide +kernel, by decide +kernel⟩, by decide⟩
theorem oy_X11_costOf : okY mMod_costOf 1 := ⟨gt_in 1110 (by decide +kernel) rfl, gt_in 13 (by decide +kernel) rfl, by decide +kernel, ⟨by decide +kernel, by decide +kernel, by decide +kernel⟩, by decide⟩
theorem oy_X11_count : okY mMod_count 1 := ⟨gt_in 1147 (by decide +kernel) rfl, gt_in 13 (by decide +kernel) rfl, by decide +kernel, ⟨by decide +kernel, by decide +kernel, by decide +kernel⟩, by decide⟩
theorem oy_X11_end : okY mMod_end 1 := ⟨gt_in 1066 (by decide +kernel) rfl, gt_in 13 (by decide +kernel) rfl, by decide +kernel, ⟨by decide +kernel, by decide +kernel, by decide +kernel⟩, by decide⟩
theorem oy_X11_feed : okY mMod_feed 2 := ⟨gt_in 1059 (by decide +kernel) rfl, gt_in 13 (by decide +kernel) rfl, by decide +kernel, ⟨by decide +kernel, by decide +kernel, by decide +kernel⟩, by decide⟩
theorem oy_X11_foreseen : okY mMod_foreseen 1 := ⟨gt_in 1090 (by decide +kernel) rfl, gt_in 13 (by decide +kernel) rfl, by decide +kernel, ⟨by decide +kernel, by decide +kernel, by decide +kernel⟩, by decide⟩
theorem oy_X11_foreseenAt : okY mMod_foreseenAt 1 := ⟨gt_in 1027 (by decide +kernel) rfl, gt_in 13 (by decide +kernel) rfl, by decide +kernel, ⟨by decide +kernel, by decide +kernel, by decide +kernel⟩, by decide⟩
theorem oy_X11_hasKey : okY mMod_hasKey 1 := ⟨gt_in 1106 (by decide +kernel) rfl, gt_in 13 (by decide +kernel) rfl, by decide +kernel, ⟨by decide +kernel, by decide +kernel, by decide +kernel⟩, by decide⟩
theorem oy_X11_index : okY mMod_index 3 := ⟨gt_in 1135 (by decide +kernel) rfl, gt_in 13 (by decide +kernel) rfl, by decide +kernel, ⟨by decide +kernel, by decide +kernel, by decide +kernel⟩, by decide⟩
theorem oy_X11_init : okY mMod_init 0 := ⟨gt_in 822 (by decide +kernel) rfl, gt_in 13 (by decide +kernel) rfl, by decide +kernel, ⟨by decide +kernel, by decide +kernel, by decide +kernel⟩, by decide⟩
theorem oy_X11_isIn : okY mMod_isIn 3 := ⟨gt_in 959 (by decide +kernel) rfl, gt_in 13 (by decide +kernel) rfl, by decide +kernel, ⟨by decide +kernel, by decide +kernel, by decide +kernel⟩, by decide⟩
theorem oy_X11_isNode : okY mMod_isNode 1 := ⟨gt_in 956 (by decide +kernel) rfl, gt_in 13 (by decide +kernel) rfl, by decide +kernel, ⟨by decide +kernel, by decide +kernel, by decide +kernel⟩, by decide⟩
theorem oy_X11_isRow : okY mMod_isRow 0 := ⟨gt_in 1074 (by decide +kernel) rfl, gt_in 13 (by decide +kernel) rfl, by decide +kernel, ⟨by decide +kernel, by decide +kernel, by decide +kernel⟩, by decide⟩
theorem oy_X11_isSmall : okY mMod_isSmall 1 := ⟨gt_in 962 (by decide +kernel) rfl, gt_in 13 (by decide +kernel) rfl, by decide +kernel, ⟨by decide +kernel, by decide +kernel, by decide +kernel⟩, by decide⟩
theorem oy_X11_isWord : okY mMod_isWord 1 := ⟨gt_in 1078 (by decide +kernel) rfl, gt_in 13 (by decide +kernel) rfl, by decide +kernel, ⟨by decide +kernel, by decide +kernel, by decide +kernel⟩, by decide⟩
theorem oy_X11_item : okY mMod_item 3 := ⟨gt_in 1128 (by decide +kernel) rfl, gt_in 13 (by decide +kernel) rfl, by decide +kernel, ⟨by decide +kernel, by decide +kernel, by decide +kernel⟩, by decide⟩
theorem oy_X11_keep : okY mMod_keep 0 := ⟨gt_in 1015 (by decide +kernel) rfl, gt_in 13 (by decide +kernel) rfl, by decide +kernel, ⟨by decide +kernel, by decide +kernel, by decide +kernel⟩, by decide⟩
theorem oy_X11_lay : okY mMod_lay 0 := ⟨gt_in 1119 (by decide +kernel) rfl, gt_in 13 (by decide +kernel) rfl, by decide +kernel, ⟨by decide +kernel, by decide +kernel, by decide +kernel⟩, by decide⟩
theorem oy_X11_lays : okY mMod_lays 5 := ⟨gt_in 1143 (by decide +kernel) rfl, gt_in 13 (by decide +kernel) rfl, by decide +kernel, ⟨by decide +kernel, by decide +kernel, by decide +kernel⟩, by decide⟩
theorem oy_X11_length : okY mMod_length 1 := ⟨gt_in 1051 (by decide +kernel) rfl, gt_in 13 (by decide +kernel) rfl, by decide +kernel, ⟨by decide +kernel, by decide +kernel, by decide +kernel⟩, by decide⟩
theorem oy_X11_letter : okY mMod_letter 2 := ⟨gt_in 1082 (by decide +kernel) rfl, gt_in 13 (by decide +kernel) rfl, by decide +kernel, ⟨by decide +kernel, by decide +kernel, by decide +kernel⟩, by decide⟩
theorem oy_X11_light : okY mMod_light 2 := ⟨gt_in 1003 (by decide +kernel) rfl, gt_in 13 (by decide +kernel) rfl, by decide +kernel, ⟨by decide +kernel, by decide +kernel, by decide +kernel⟩, by decide⟩
theorem oy_X11_lights : okY mMod_lights 1 := ⟨gt_in 986 (by decide +kernel) rfl, gt_in 13 (by decide +kernel) rfl, by decide +kernel, ⟨by decide +kernel, by decide +kernel, by decide +kernel⟩, by decide⟩
theorem oy_X11_looks : okY mMod_looks 0 := ⟨gt_in 827 (by decide +kernel) rfl, gt_in 13 (by decide +kernel) rfl, by decide +kernel, ⟨by decide +kernel, by decide +kernel, by decide +kernel⟩, by decide⟩
theorem oy_X11_mean : okY mMod_mean 1 := ⟨gt_in 1114 (by decide +kernel) rfl, gt_in 13 (by decide +kernel) rfl, by decide +kernel, ⟨by decide +kernel, by decide +kernel, by decide +kernel⟩, by decide⟩
theorem oy_X11_near : okY mMod_near 2 := ⟨gt_in 1086 (by decide +kernel) rfl, gt_in 13 (by decide +kernel) rfl, by decide +kernel, ⟨by decide +kernel, by decide +kernel, by decide +kernel⟩, by decide⟩
theorem oy_X11_node : okY mMod_node 3 := ⟨gt_in 952 (by decide +kernel) rfl, gt_in 13 (by decide +kernel) rfl, by decide +kernel, ⟨by decide +kernel, by decide +kernel, by decide +kernel⟩, by decide⟩
theorem oy_X11_offered : okY mMod_offered 1 := ⟨gt_in 1094 (by decide +kernel) rfl, gt_in 13 (by decide +kernel) rfl, by decide +kernel, ⟨by decide +kernel, by decide +kernel, by decide +kernel⟩, by decide⟩
theorem oy_X11_offeredAt : okY mMod_offeredAt 1 := ⟨gt_in 1039 (by decide +kernel) rfl, gt_in 13 (by decide +kernel) rfl, by decide +kernel, ⟨by decide +kernel, by decide +kernel, by decide +kernel⟩, by decide⟩
theorem oy_X11_placeOf : okY mMod_placeOf 1 := ⟨gt_in 982 (by decide +kernel) rfl, gt_in 13 (by decide +kernel) rfl, by decide +kernel, ⟨by decide +kernel, by decide +kernel, by decide +kernel⟩, by decide⟩
theorem oy_X11_press : okY mMod_press 0 := ⟨gt_in 1007 (by decide +kernel) rfl, gt_in 13 (by decide +kernel) rfl, by decide +kernel, ⟨by decide +kernel, by decide +kernel, by decide +kernel⟩, by decide⟩
theorem oy_X11_put : okY mMod_put 1 := ⟨gt_in 1019 (by decide +kernel) rfl, gt_in 13 (by decide +kernel) rfl, by decide +kernel, ⟨by decide +kernel, by decide +kernel, by decide +kernel⟩, by decide⟩
theorem oy_X11_ranked : okY mMod_ranked 1 := ⟨gt_in 1035 (by decide +kernel) rfl, gt_in 13 (by decide +kernel) rfl, by decide +kernel, ⟨by decide +kernel, by decide +kernel, by decide +kernel⟩, by decide⟩
theorem oy_X11_set : okY mMod_set 2 := ⟨gt_in 990 (by decide +kernel) rfl, gt_in 13 (by decide +kernel) rfl, by decide +kernel, ⟨by decide +kernel, by decide +kernel, by decide +kernel⟩, by decide⟩
theorem oy_X11_share : okY mMod_share 2 := ⟨gt_in 1098 (by decide +kernel) rfl, gt_in 13 (by decide +kernel) rfl, by decide +kernel, ⟨by decide +kernel, by decide +kernel, by decide +kernel⟩, by decide⟩
theorem oy_X11_state : okY mMod_state 1 := ⟨gt_in 1047 (by decide +kernel) rfl, gt_in 13 (by decide +kernel) rfl, by decide +kernel, ⟨by decide +kernel, by decide +kernel, by decide +kernel⟩, by decide⟩
theorem oy_X11_sums : okY mMod_sums 1 := ⟨gt_in 1123 (by decide +kernel) rfl, gt_in 13 (by decide +kernel) rfl, by decide +kernel, ⟨by decide +kernel, by decide +kernel, by decide +kernel⟩, by decide⟩
theorem oy_X11_thrown : okY mMod_thrown 0 := ⟨gt_in 948 (by decide +kernel) rfl, gt_in 13 (by decide +kernel) rfl, by decide +kernel, ⟨by decide +kernel, by decide +kernel, by decide +kernel⟩, by decide⟩
theorem oy_X11_tick : okY mMod_tick 1 := ⟨gt_in 994 (by decide +kernel) rfl, gt_in 13 (by decide +kernel) rfl, by decide +kernel, ⟨by decide +kernel, by decide +kernel, by decide +kernel⟩, by decide⟩
theorem oy_X11_ticks : okY mMod_ticks 0 := ⟨gt_in 999 (by decide +kernel) rfl, gt_in 13 (by decide +kernel) rfl, by decide +kernel, ⟨by decide +kernel, by decide +kernel, by decide +kernel⟩, by decide⟩
theorem oy_X11_told : okY mMod_told 2 := ⟨gt_in 978 (by decide +kernel) rfl, gt_in 13 (by decide +kernel) rfl, by decide +kernel, ⟨by decide +kernel, by decide +kernel, by decide +kernel⟩, by decide⟩
theorem oy_X11_undo : okY mMod_undo 0 := ⟨gt_in 1023 (by decide +kernel) rfl, gt_in 13 (by decide +kernel) rfl, by decide +kernel, ⟨by decide +kernel, by decide +kernel, by decide +kernel⟩, by decide⟩
theorem oy_X11_weight : okY mMod_weight 2 := ⟨gt_in 1132 (by decide +kernel) rfl, gt_in 13 (by decide +kernel) rfl, by decide +kernel, ⟨by decide +kernel, by decide +kernel, by decide +kernel⟩, by decide⟩
theorem oy_X11_word : okY mMod_word 1 := ⟨gt_in 1070 (by decide +kernel) rfl, gt_in 13 (by decide +kernel) rfl, by decide +kernel, ⟨by decide +kernel, by decide +kernel, by decide +kernel⟩, by decide⟩
theorem oy_X11_written : okY mMod_written 0 := ⟨gt_in 1031 (by decide +kernel) rfl, gt_in 13 (by decide +kernel) rfl, by decide +kernel, ⟨by decide +kernel, by decide +kernel, by decide +kernel⟩, by decide⟩
theorem oy_X1_init : okY mChain_init 2 := ⟨gt_in 164 (by decide +kernel) rfl, gt_in 7 (by decide +kernel) rfl, by decide +kernel, ⟨by decide +kernel, by decide +kernel, by decide +kernel⟩, by decide⟩
theorem oy_X1_signAt : okY mChain_signAt 1 := ⟨gt_in 807 (by decide +kernel) rfl, gt_in 7 (by decide +kernel) rfl, by decide +kernel, ⟨by decide +kernel, by decide +kernel, by decide +kernel⟩, by decide⟩
theorem oy_X1_without : okY mChain_without 1 := ⟨gt_in 452 (by decide +kernel) rfl, gt_in 7 (by decide +kernel) rfl, by decide +kernel, ⟨by decide +kernel, by decide +kernel, by decide +kernel⟩, by decide⟩
theorem oy_X2_enlist : okY mFinder_enlist 2 := ⟨gt_in 502 (by decide +kernel) rfl, gt_in 10 (by decide +kernel) rfl, by decide +kernel, ⟨by decide +kernel, by decide +kernel, by decide +kernel⟩, by decide⟩
theorem oy_X2_found : okY mFinder_found 0 := ⟨gt_in 734 (by decide +kernel) rfl, gt_in 10 (by decide +kernel) rfl, by decide +kernel, ⟨by decide +kernel, by decide +kernel, by decide +kernel⟩, by decide⟩
theorem oy_X2_foundAt : okY mFinder_foundAt 1 := ⟨gt_in 514 (by decide +kernel) rfl, gt_in 10 (by decide +kernel) rfl, by decide +kernel, ⟨by decide +kernel, by decide +kernel, by decide +kernel⟩, by decide⟩
theorem oy_X2_init : okY mFinder_init 3 := ⟨gt_in 240 (by decide +kernel) rfl, gt_in 10 (by decide +kernel) rfl, by decide +kernel, ⟨by decide +kernel, by decide +kernel, by decide +kernel⟩, by decide⟩
theorem oy_X2_isBetter : okY mFinder_isBetter 3 := ⟨gt_in 506 (by decide +kernel) rfl, gt_in 10 (by decide +kernel) rfl, by decide +kernel, ⟨by decide +kernel, by decide +kernel, by decide +kernel⟩, by decide⟩
theorem oy_X2_readWritten : okY mFinder_readWritten 0 := ⟨gt_in 468 (by decide +kernel) rfl, gt_in 10 (by decide +kernel) rfl, by decide +kernel, ⟨by decide +kernel, by decide +kernel, by decide +kernel⟩, by decide⟩
theorem oy_X2_seekForeseen : okY mFinder_seekForeseen 0 := ⟨gt_in 464 (by decide +kernel) rfl, gt_in 10 (by decide +kernel) rfl, by decide +kernel, ⟨by decide +kernel, by decide +kernel, by decide +kernel⟩, by decide⟩
theorem oy_X2_seekOffered : okY mFinder_seekOffered 0 := ⟨gt_in 525 (by decide +kernel) rfl, gt_in 10 (by decide +kernel) rfl, by decide +kernel, ⟨by decide +kernel, by decide +kernel, by decide +kernel⟩, by decide⟩
theorem oy_X2_slipsOf : okY mFinder_slipsOf 2 := ⟨gt_in 534 (by decide +kernel) rfl, gt_in 10 (by decide +kernel) rfl, by decide +kernel, ⟨by decide +kernel, by decide +kernel, by decide +kernel⟩, by decide⟩
theorem oy_X3_change : okY mLamp_change 0 := ⟨gt_in 420 (by decide +kernel) rfl, gt_in 5 (by decide +kernel) rfl, by decide +kernel, ⟨by decide +kernel, by decide +kernel, by decide +kernel⟩, by decide⟩
theorem oy_X3_comeTo : okY mLamp_comeTo 1 := ⟨gt_in 118 (by decide +kernel) rfl, gt_in 5 (by decide +kernel) rfl, by decide +kernel, ⟨by decide +kernel, by decide +kernel, by decide +kernel⟩, by decide⟩
theorem oy_X3_init : okY mLamp_init 2 := ⟨gt_in 113 (by decide +kernel) rfl, gt_in 5 (by decide +kernel) rfl, by decide +kernel, ⟨by decide +kernel, by decide +kernel, by decide +kernel⟩, by decide⟩
theorem oy_X3_pass : okY mLamp_pass 1 := ⟨gt_in 407 (by decide +kernel) rfl, gt_in 5 (by decide +kernel) rfl, by decide +kernel, ⟨by decide +kernel, by decide +kernel, by decide +kernel⟩, by decide⟩
theorem oy_X3_take : okY mLamp_take 0 := ⟨gt_in 432 (by decide +kernel) rfl, gt_in 5 (by decide +kernel) rfl, by decide +kernel, ⟨by decide +kernel, by decide +kernel, by decide +kernel⟩, by decide⟩
theorem oy_X3_tell : okY mLamp_tell 1 := ⟨gt_in 551 (by decide +kernel) rfl, gt_in 5 (by decide +kernel) rfl, by decide +kernel, ⟨by decide +kernel, by decide +kernel, by decide +kernel⟩, by decide⟩
theorem oy_X4_change : okY mNumbers_change 2 := ⟨gt_in 394 (by decide +kernel) rfl, gt_in 2 (by decide +kernel) rfl, by decide +kernel, ⟨by decide +kernel, by decide +kernel, by decide +kernel⟩, by decide⟩
theorem oy_X4_get : okY mNumbers_get 1 := ⟨gt_in 413 (by decide +kernel) rfl, gt_in 2 (by decide +kernel) rfl, by decide +kernel, ⟨by decide +kernel, by decide +kernel, by decide +kernel⟩, by decide⟩
theorem oy_X4_init : okY mNumbers_init 0 := ⟨gt_in 31 (by decide +kernel) rfl, gt_in 2 (by decide +kernel) rfl, by decide +kernel, ⟨by decide +kernel, by decide +kernel, by decide +kernel⟩, by decide⟩
theorem oy_X5_build : okY mPlan_build 1 := ⟨gt_in 715 (by decide +kernel) rfl, gt_in 12 (by decide +kernel) rfl, by decide +kernel, ⟨by decide +kernel, by decide +kernel, by decide +kernel⟩, by decide⟩
theorem oy_X5_costWith : okY mPlan_costWith 3 := ⟨gt_in 699 (by decide +kernel) rfl, gt_in 12 (by decide +kernel) rfl, by decide +kernel, ⟨by decide +kernel, by decide +kernel, by decide +kernel⟩, by decide⟩
theorem oy_X5_firstEnd : okY mPlan_firstEnd 2 := ⟨gt_in 695 (by decide +kernel) rfl, gt_in 12 (by decide +kernel) rfl, by decide +kernel, ⟨by decide +kernel, by decide +kernel, by decide +kernel⟩, by decide⟩
theorem oy_X5_init : okY mPlan_init 2 := ⟨gt_in 287 (by decide +kernel) rfl, gt_in 12 (by decide +kernel) rfl, by decide +kernel, ⟨by decide +kernel, by decide +kernel, by decide +kernel⟩, by decide⟩
theorem oy_X5_isPart : okY mPlan_isPart 2 := ⟨gt_in 706 (by decide +kernel) rfl, gt_in 12 (by decide +kernel) rfl, by decide +kernel, ⟨by decide +kernel, by decide +kernel, by decide +kernel⟩, by decide⟩
theorem oy_X5_leastOf : okY mPlan_leastOf 2 := ⟨gt_in 703 (by decide +kernel) rfl, gt_in 12 (by decide +kernel) rfl, by decide +kernel, ⟨by decide +kernel, by decide +kernel, by decide +kernel⟩, by decide⟩
theorem oy_X5_openAt : okY mPlan_openAt 3 := ⟨gt_in 719 (by decide +kernel) rfl, gt_in 12 (by decide +kernel) rfl, by decide +kernel, ⟨by decide +kernel, by decide +kernel, by decide +kernel⟩, by decide⟩
theorem oy_X5_solve : okY mPlan_solve 1 := ⟨gt_in 685 (by decide +kernel) rfl, gt_in 12 (by decide +kernel) rfl, by decide +kernel, ⟨by decide +kernel, by decide +kernel, by decide +kernel⟩, by decide⟩
theorem oy_X5_sumOf : okY mPlan_sumOf 2 := ⟨gt_in 711 (by decide +kernel) rfl, gt_in 12 (by decide +kernel) rfl, by decide +kernel, ⟨by decide +kernel, by decide +kernel, by decide +kernel⟩, by decide⟩
theorem oy_X6_change : okY mShares_change 2 := ⟨gt_in 635 (by decide +kernel) rfl, gt_in 11 (by decide +kernel) rfl, by decide +kernel, ⟨by decide +kernel, by decide +kernel, by decide +kernel⟩, by decide⟩
theorem oy_X6_commonDivisor : okY mShares_commonDivisor 2 := ⟨gt_in 673 (by decide +kernel) rfl, gt_in 11 (by decide +kernel) rfl, by decide +kernel, ⟨by decide +kernel, by decide +kernel, by decide +kernel⟩, by decide⟩
theorem oy_X6_costOf : okY mShares_costOf 1 := ⟨gt_in 645 (by decide +kernel) rfl, gt_in 11 (by decide +kernel) rfl, by decide +kernel, ⟨by decide +kernel, by decide +kernel, by decide +kernel⟩, by decide⟩
theorem oy_X6_findLeasts : okY mShares_findLeasts 0 := ⟨gt_in 661 (by decide +kernel) rfl, gt_in 11 (by decide +kernel) rfl, by decide +kernel, ⟨by decide +kernel, by decide +kernel, by decide +kernel⟩, by decide⟩
theorem oy_X6_init : okY mShares_init 2 := ⟨gt_in 268 (by decide +kernel) rfl, gt_in 11 (by decide +kernel) rfl, by decide +kernel, ⟨by decide +kernel, by decide +kernel, by decide +kernel⟩, by decide⟩
theorem oy_X6_meanPart : okY mShares_meanPart 1 := ⟨gt_in 656 (by decide +kernel) rfl, gt_in 11 (by decide +kernel) rfl, by decide +kernel, ⟨by decide +kernel, by decide +kernel, by decide +kernel⟩, by decide⟩
theorem oy_X6_shareOf : okY mShares_shareOf 1 := ⟨gt_in 691 (by decide +kernel) rfl, gt_in 11 (by decide +kernel) rfl, by decide +kernel, ⟨by decide +kernel, by decide +kernel, by decide +kernel⟩, by decide⟩
theorem oy_X7_complete : okY mSheet_complete 3 := ⟨gt_in 518 (by decide +kernel) rfl, gt_in 6 (by decide +kernel) rfl, by decide +kernel, ⟨by decide +kernel, by decide +kernel, by decide +kernel⟩, by decide⟩
theorem oy_X7_copyLast : okY mSheet_copyLast 2 := ⟨gt_in 477 (by decide +kernel) rfl, gt_in 6 (by decide +kernel) rfl, by decide +kernel, ⟨by decide +kernel, by decide +kernel, by decide +kernel⟩, by decide⟩
theorem oy_X7_dropLast : okY mSheet_dropLast 0 := ⟨gt_in 448 (by decide +kernel) rfl, gt_in 6 (by decide +kernel) rfl, by decide +kernel, ⟨by decide +kernel, by decide +kernel, by decide +kernel⟩, by decide⟩
theorem oy_X7_init : okY mSheet_init 0 := ⟨gt_in 158 (by decide +kernel) rfl, gt_in 6 (by decide +kernel) rfl, by decide +kernel, ⟨by decide +kernel, by decide +kernel, by decide +kernel⟩, by decide⟩
theorem oy_X7_keep : okY mSheet_keep 0 := ⟨gt_in 444 (by decide +kernel) rfl, gt_in 6 (by decide +kernel) rfl, by decide +kernel, ⟨by decide +kernel, by decide +kernel, by decide +kernel⟩, by decide⟩
theorem oy_X7_part : okY mSheet_part 1 := ⟨gt_in 559 (by decide +kernel) rfl, gt_in 6 (by decide +kernel) rfl, by decide +kernel, ⟨by decide +kernel, by decide +kernel, by decide +kernel⟩, by decide⟩
theorem oy_X7_speak : okY mSheet_speak 0 := ⟨gt_in 460 (by decide +kernel) rfl, gt_in 6 (by decide +kernel) rfl, by decide +kernel, ⟨by decide +kernel, by decide +kernel, by decide +kernel⟩, by decide⟩
theorem oy_X7_takeBack : okY mSheet_takeBack 0 := ⟨gt_in 456 (by decide +kernel) rfl, gt_in 6 (by decide +kernel) rfl, by decide +kernel, ⟨by decide +kernel, by decide +kernel, by decide +kernel⟩, by decide⟩
theorem oy_X7_undoable : okY mSheet_undoable 0 := ⟨gt_in 547 (by decide +kernel) rfl, gt_in 6 (by decide +kernel) rfl, by decide +kernel, ⟨by decide +kernel, by decide +kernel, by decide +kernel⟩, by decide⟩
theorem oy_X7_write : okY mSheet_write 1 := ⟨gt_in 440 (by decide +kernel) rfl, gt_in 6 (by decide +kernel) rfl, by decide +kernel, ⟨by decide +kernel, by decide +kernel, by decide +kernel⟩, by decide⟩
theorem oy_X7_written : okY mSheet_written 0 := ⟨gt_in 472 (by decide +kernel) rfl, gt_in 6 (by decide +kernel) rfl, by decide +kernel, ⟨by decide +kernel, by decide +kernel, by decide +kernel⟩, by decide⟩
theorem oy_X8_cut : okY mTape_cut 1 := ⟨gt_in 578 (by decide +kernel) rfl, gt_in 8 (by decide +kernel) rfl, by decide +kernel, ⟨by decide +kernel, by decide +kernel, by decide +kernel⟩, by decide⟩
theorem oy_X8_fedByte : okY mTape_fedByte 3 := ⟨gt_in 570 (by decide +kernel) rfl, gt_in 8 (by decide +kernel) rfl, by decide +kernel, ⟨by decide +kernel, by decide +kernel, by decide +kernel⟩, by decide⟩
theorem oy_X8_init : okY mTape_init 0 := ⟨gt_in 207 (by decide +kernel) rfl, gt_in 8 (by decide +kernel) rfl, by decide +kernel, ⟨by decide +kernel, by decide +kernel, by decide +kernel⟩, by decide⟩
theorem oy_X8_isRow : okY mTape_isRow 0 := ⟨gt_in 681 (by decide +kernel) rfl, gt_in 8 (by decide +kernel) rfl, by decide +kernel, ⟨by decide +kernel, by decide +kernel, by decide +kernel⟩, by decide⟩
theorem oy_X8_isWord : okY mTape_isWord 0 := ⟨gt_in 592 (by decide +kernel) rfl, gt_in 8 (by decide +kernel) rfl, by decide +kernel, ⟨by decide +kernel, by decide +kernel, by decide +kernel⟩, by decide⟩
theorem oy_X8_lettersAlone : okY mTape_lettersAlone 0 := ⟨gt_in 596 (by decide +kernel) rfl, gt_in 8 (by decide +kernel) rfl, by decide +kernel, ⟨by decide +kernel, by decide +kernel, by decide +kernel⟩, by decide⟩
theorem oy_X8_signAt : okY mTape_signAt 1 := ⟨gt_in 613 (by decide +kernel) rfl, gt_in 8 (by decide +kernel) rfl, by decide +kernel, ⟨by decide +kernel, by decide +kernel, by decide +kernel⟩, by decide⟩
theorem oy_X8_size : okY mTape_size 0 := ⟨gt_in 601 (by decide +kernel) rfl, gt_in 8 (by decide +kernel) rfl, by decide +kernel, ⟨by decide +kernel, by decide +kernel, by decide +kernel⟩, by decide⟩
theorem oy_X8_take : okY mTape_take 2 := ⟨gt_in 567 (by decide +kernel) rfl, gt_in 8 (by decide +kernel) rfl, by decide +kernel, ⟨by decide +kernel, by decide +kernel, by decide +kernel⟩, by decide⟩
theorem oy_X9_add : okY mTray_add 3 := ⟨gt_in 340 (by decide +kernel) rfl, gt_in 3 (by decide +kernel) rfl, by decide +kernel, ⟨by decide +kernel, by decide +kernel, by decide +kernel⟩, by decide⟩
theorem oy_X9_areNeighbours : okY mTray_areNeighbours 2 := ⟨gt_in 539 (by decide +kernel) rfl, gt_in 3 (by decide +kernel) rfl, by decide +kernel, ⟨by decide +kernel, by decide +kernel, by decide +kernel⟩, by decide⟩
theorem oy_X9_behind : okY mTray_behind 1 := ⟨gt_in 424 (by decide +kernel) rfl, gt_in 3 (by decide +kernel) rfl, by decide +kernel, ⟨by decide +kernel, by decide +kernel, by decide +kernel⟩, by decide⟩
theorem oy_X9_empty : okY mTray_empty 0 := ⟨gt_in 47 (by decide +kernel) rfl, gt_in 3 (by decide +kernel) rfl, by decide +kernel, ⟨by decide +kernel, by decide +kernel, by decide +kernel⟩, by decide⟩
theorem oy_X9_findLighted : okY mTray_findLighted 0 := ⟨gt_in 55 (by decide +kernel) rfl, gt_in 3 (by decide +kernel) rfl, by decide +kernel, ⟨by decide +kernel, by decide +kernel, by decide +kernel⟩, by decide⟩
theorem oy_X9_findLights : okY mTray_findLights 0 := ⟨gt_in 51 (by decide +kernel) rfl, gt_in 3 (by decide +kernel) rfl, by decide +kernel, ⟨by decide +kernel, by decide +kernel, by decide +kernel⟩, by decide⟩
theorem oy_X9_firstIn : okY mTray_firstIn 1 := ⟨gt_in 122 (by decide +kernel) rfl, gt_in 3 (by decide +kernel) rfl, by decide +kernel, ⟨by decide +kernel, by decide +kernel, by decide +kernel⟩, by decide⟩
theorem oy_X9_groupOf : okY mTray_groupOf 1 := ⟨gt_in 378 (by decide +kernel) rfl, gt_in 3 (by decide +kernel) rfl, by decide +kernel, ⟨by decide +kernel, by decide +kernel, by decide +kernel⟩, by decide⟩
theorem oy_X9_has : okY mTray_has 1 := ⟨gt_in 59 (by decide +kernel) rfl, gt_in 3 (by decide +kernel) rfl, by decide +kernel, ⟨by decide +kernel, by decide +kernel, by decide +kernel⟩, by decide⟩
theorem oy_X9_hasValue : okY mTray_hasValue 1 := ⟨gt_in 353 (by decide +kernel) rfl, gt_in 3 (by decide +kernel) rfl, by decide +kernel, ⟨by decide +kernel, by decide +kernel, by decide +kernel⟩, by decide⟩
theorem oy_X9_init : okY mTray_init 0 := ⟨gt_in 42 (by decide +kernel) rfl, gt_in 3 (by decide +kernel) rfl, by decide +kernel, ⟨by decide +kernel, by decide +kernel, by decide +kernel⟩, by decide⟩
theorem oy_X9_join : okY mTray_join 2 := ⟨gt_in 70 (by decide +kernel) rfl, gt_in 3 (by decide +kernel) rfl, by decide +kernel, ⟨by decide +kernel, by decide +kernel, by decide +kernel⟩, by decide⟩
theorem oy_X9_kindOf : okY mTray_kindOf 1 := ⟨gt_in 344 (by decide +kernel) rfl, gt_in 3 (by decide +kernel) rfl, by decide +kernel, ⟨by decide +kernel, by decide +kernel, by decide +kernel⟩, by decide⟩
theorem oy_X9_lightsOf : okY mTray_lightsOf 1 := ⟨gt_in 386 (by decide +kernel) rfl, gt_in 3 (by decide +kernel) rfl, by decide +kernel, ⟨by decide +kernel, by decide +kernel, by decide +kernel⟩, by decide⟩
theorem oy_X9_placeOf : okY mTray_placeOf 1 := ⟨gt_in 382 (by decide +kernel) rfl, gt_in 3 (by decide +kernel) rfl, by decide +kernel, ⟨by decide +kernel, by decide +kernel, by decide +kernel⟩, by decide⟩
theorem oy_X9_size : okY mTray_size 0 := ⟨gt_in 666 (by decide +kernel) rfl, gt_in 3 (by decide +kernel) rfl, by decide +kernel, ⟨by decide +kernel, by decide +kernel, by decide +kernel⟩, by decide⟩
theorem oy_X9_standBehind : okY mTray_standBehind 2 := ⟨gt_in 66 (by decide +kernel) rfl, gt_in 3 (by decide +kernel) rfl, by decide +kernel, ⟨by decide +kernel, by decide +kernel, by decide +kernel⟩, by decide⟩
theorem oy_X9_takes : okY mTray_takes 2 := ⟨gt_in 347 (by decide +kernel) rfl, gt_in 3 (by decide +kernel) rfl, by decide +kernel, ⟨by decide +kernel, by decide +kernel, by decide +kernel⟩, by decide⟩
theorem oy_X9_valueOf : okY mTray_valueOf 1 := ⟨gt_in 374 (by decide +kernel) rfl, gt_in 3 (by decide +kernel) rfl, by decide +kernel, ⟨by decide +kernel, by decide +kernel, by decide +kernel⟩, by decide⟩
theorem cv_L_7 : okV RL 7 mDesk_at 2 := ⟨oy_X10_at, gt_in 740 (by decide +kernel) rfl, gt_in 741 (by decide +kernel) rfl, Or.inl (gt_in 739 (by decide +kernel) rfl)⟩
theorem cv_L_15 : okV RL 15 mDesk_letter 2 := ⟨oy_X10_letter, gt_in 813 (by decide +kernel) rfl, gt_in 814 (by decide +kernel) rfl, Or.inl (gt_in 812 (by decide +kernel) rfl)⟩
theorem cv_L_22 : okV RL 22 mDesk_node 3 := ⟨oy_X10_node, gt_in 334 (by decide +kernel) rfl, gt_in 335 (by decide +kernel) rfl, Or.inl (gt_in 333 (by decide +kernel) rfl)⟩
theorem cv_L_26 : okV RL 26 mMod_node 3 := ⟨oy_X11_node, gt_in 950 (by decide +kernel) rfl, gt_in 951 (by decide +kernel) rfl, Or.inl (gt_in 949 (by decide +kernel) rfl)⟩
theorem cv_L_27 : okV RL 27 mDesk_clear 0 := ⟨oy_X10_clear, gt_in 361 (by decide +kernel) rfl, gt_in 362 (by decide +kernel) rfl, Or.inl (gt_in 360 (by decide +kernel) rfl)⟩
theorem cv_L_30 : okV RL 30 mMod_clear 0 := ⟨oy_X11_clear, gt_in 972 (by decide +kernel) rfl, gt_in 973 (by decide +kernel) rfl, Or.inl (gt_in 971 (by decide +kernel) rfl)⟩
theorem cv_L_31 : okV RL 31 mDesk_told 2 := ⟨oy_X10_told, gt_in 366 (by decide +kernel) rfl, gt_in 367 (by decide +kernel) rfl, Or.inl (gt_in 365 (by decide +kernel) rfl)⟩
theorem cv_L_34 : okV RL 34 mMod_told 2 := ⟨oy_X11_told, gt_in 976 (by decide +kernel) rfl, gt_in 977 (by decide +kernel) rfl, Or.inl (gt_in 975 (by decide +kernel) rfl)⟩
theorem cv_L_35 : okV RL 35 mDesk_set 2 := ⟨oy_X10_set, gt_in 388 (by decide +kernel) rfl, gt_in 389 (by decide +kernel) rfl, Or.inl (gt_in 387 (by decide +kernel) rfl)⟩
theorem cv_L_39 : okV RL 39 mMod_set 2 := ⟨oy_X11_set, gt_in 988 (by decide +kernel) rfl, gt_in 989 (by decide +kernel) rfl, Or.inl (gt_in 987 (by decide +kernel) rfl)⟩
theorem cv_L_40 : okV RL 40 mDesk_tick 1 := ⟨oy_X10_tick, gt_in 401 (by decide +kernel) rfl, gt_in 402 (by decide +kernel) rfl, Or.inl (gt_in 400 (by decide +kernel) rfl)⟩
theorem cv_L_44 : okV RL 44 mMod_tick 1 := ⟨oy_X11_tick, gt_in 992 (by decide +kernel) rfl, gt_in 993 (by decide +kernel) rfl, Or.inl (gt_in 991 (by decide +kernel) rfl)⟩
theorem cv_L_45 : okV RL 45 mDesk_press 0 := ⟨oy_X10_press, gt_in 426 (by decide +kernel) rfl, gt_in 427 (by decide +kernel) rfl, Or.inl (gt_in 425 (by decide +kernel) rfl)⟩
theorem cv_L_49 : okV RL 49 mMod_press 0 := ⟨oy_X11_press, gt_in 1005 (by decide +kernel) rfl, gt_in 1006 (by decide +kernel) rfl, Or.inl (gt_in 1004 (by decide +kernel) rfl)⟩
theorem cv_L_50 : okV RL 50 mDesk_state 1 := ⟨oy_X10_state, gt_in 541 (by decide +kernel) rfl, gt_in 542 (by decide +kernel) rfl, Or.inl (gt_in 540 (by decide +kernel) rfl)⟩
theorem cv_L_53 : okV RL 53 mMod_state 1 := ⟨oy_X11_state, gt_in 1045 (by decide +kernel) rfl, gt_in 1046 (by decide +kernel) rfl, Or.inl (gt_in 1044 (by decide +kernel) rfl)⟩
theorem cv_L_54 : okV RL 54 mDesk_length 1 := ⟨oy_X10_length, gt_in 553 (by decide +kernel) rfl, gt_in 554 (by decide +kernel) rfl, Or.inl (gt_in 552 (by decide +kernel) rfl)⟩
theorem cv_L_57 : okV RL 57 mMod_length 1 := ⟨oy_X11_length, gt_in 1049 (by decide +kernel) rfl, gt_in 1050 (by decide +kernel) rfl, Or.inl (gt_in 1048 (by decide +kernel) rfl)⟩
theorem cv_L_63 : okV RL 63 mMod_at 2 := ⟨oy_X11_at, gt_in 1053 (by decide +kernel) rfl, gt_in 1054 (by decide +kernel) rfl, Or.inl (gt_in 1052 (by decide +kernel) rfl)⟩
theorem cv_L_64 : okV RL 64 mMod_thrown 0 := ⟨oy_X11_thrown, gt_in 946 (by decide +kernel) rfl, gt_in 947 (by decide +kernel) rfl, Or.inl (gt_in 945 (by decide +kernel) rfl)⟩
theorem cv_L_67 : okV RL 67 mDesk_feed 2 := ⟨oy_X10_feed, gt_in 561 (by decide +kernel) rfl, gt_in 562 (by decide +kernel) rfl, Or.inl (gt_in 560 (by decide +kernel) rfl)⟩
theorem cv_L_70 : okV RL 70 mMod_feed 2 := ⟨oy_X11_feed, gt_in 1057 (by decide +kernel) rfl, gt_in 1058 (by decide +kernel) rfl, Or.inl (gt_in 1056 (by decide +kernel) rfl)⟩
theorem cv_L_71 : okV RL 71 mDesk_end 1 := ⟨oy_X10_end, gt_in 572 (by decide +kernel) rfl, gt_in 573 (by decide +kernel) rfl, Or.inl (gt_in 571 (by decide +kernel) rfl)⟩
theorem cv_L_75 : okV RL 75 mMod_end 1 := ⟨oy_X11_end, gt_in 1064 (by decide +kernel) rfl, gt_in 1065 (by decide +kernel) rfl, Or.inl (gt_in 1063 (by decide +kernel) rfl)⟩
theorem cv_L_76 : okV RL 76 mDesk_word 1 := ⟨oy_X10_word, gt_in 581 (by decide +kernel) rfl, gt_in 582 (by decide +kernel) rfl, Or.inl (gt_in 580 (by decide +kernel) rfl)⟩
theorem cv_L_79 : okV RL 79 mMod_word 1 := ⟨oy_X11_word, gt_in 1068 (by decide +kernel) rfl, gt_in 1069 (by decide +kernel) rfl, Or.inl (gt_in 1067 (by decide +kernel) rfl)⟩
theorem cv_L_82 : okV RL 82 mMod_letter 2 := ⟨oy_X11_letter, gt_in 1080 (by decide +kernel) rfl, gt_in 1081 (by decide +kernel) rfl, Or.inl (gt_in 1079 (by decide +kernel) rfl)⟩
theorem cv_L_83 : okV RL 83 mDesk_foreseen 1 := ⟨oy_X10_foreseen, gt_in 615 (by decide +kernel) rfl, gt_in 616 (by decide +kernel) rfl, Or.inl (gt_in 614 (by decide +kernel) rfl)⟩
theorem cv_L_86 : okV RL 86 mMod_foreseen 1 := ⟨oy_X11_foreseen, gt_in 1088 (by decide +kernel) rfl, gt_in 1089 (by decide +kernel) rfl, Or.inl (gt_in 1087 (by decide +kernel) rfl)⟩
theorem cv_L_87 : okV RL 87 mDesk_offered 1 := ⟨oy_X10_offered, gt_in 619 (by decide +kernel) rfl, gt_in 620 (by decide +kernel) rfl, Or.inl (gt_in 618 (by decide +kernel) rfl)⟩
theorem cv_L_90 : okV RL 90 mMod_offered 1 := ⟨oy_X11_offered, gt_in 1092 (by decide +kernel) rfl, gt_in 1093 (by decide +kernel) rfl, Or.inl (gt_in 1091 (by decide +kernel) rfl)⟩
theorem cv_L_91 : okV RL 91 mDesk_near 2 := ⟨oy_X10_near, gt_in 623 (by decide +kernel) rfl, gt_in 624 (by decide +kernel) rfl, Or.inl (gt_in 622 (by decide +kernel) rfl)⟩
theorem cv_L_94 : okV RL 94 mMod_near 2 := ⟨oy_X11_near, gt_in 1084 (by decide +kernel) rfl, gt_in 1085 (by decide +kernel) rfl, Or.inl (gt_in 1083 (by decide +kernel) rfl)⟩
theorem cv_L_95 : okV RL 95 mDesk_share 2 := ⟨oy_X10_share, gt_in 629 (by decide +kernel) rfl, gt_in 630 (by decide +kernel) rfl, Or.inl (gt_in 628 (by decide +kernel) rfl)⟩
theorem cv_L_98 : okV RL 98 mMod_share 2 := ⟨oy_X11_share, gt_in 1096 (by decide +kernel) rfl, gt_in 1097 (by decide +kernel) rfl, Or.inl (gt_in 1095 (by decide +kernel) rfl)⟩
theorem cv_L_99 : okV RL 99 mDesk_cost 1 := ⟨oy_X10_cost, gt_in 639 (by decide +kernel) rfl, gt_in 640 (by decide +kernel) rfl, Or.inl (gt_in 638 (by decide +kernel) rfl)⟩
theorem cv_L_102 : okV RL 102 mMod_cost 1 := ⟨oy_X11_cost, gt_in 1100 (by decide +kernel) rfl, gt_in 1101 (by decide +kernel) rfl, Or.inl (gt_in 1099 (by decide +kernel) rfl)⟩
theorem cv_L_103 : okV RL 103 mDesk_mean 1 := ⟨oy_X10_mean, gt_in 650 (by decide +kernel) rfl, gt_in 651 (by decide +kernel) rfl, Or.inl (gt_in 649 (by decide +kernel) rfl)⟩
theorem cv_L_107 : okV RL 107 mMod_mean 1 := ⟨oy_X11_mean, gt_in 1112 (by decide +kernel) rfl, gt_in 1113 (by decide +kernel) rfl, Or.inl (gt_in 1111 (by decide +kernel) rfl)⟩
theorem cv_L_108 : okV RL 108 mDesk_lay 0 := ⟨oy_X10_lay, gt_in 675 (by decide +kernel) rfl, gt_in 676 (by decide +kernel) rfl, Or.inl (gt_in 674 (by decide +kernel) rfl)⟩
theorem cv_L_111 : okV RL 111 mMod_lay 0 := ⟨oy_X11_lay, gt_in 1117 (by decide +kernel) rfl, gt_in 1118 (by decide +kernel) rfl, Or.inl (gt_in 1116 (by decide +kernel) rfl)⟩
theorem cv_L_112 : okV RL 112 mDesk_count 1 := ⟨oy_X10_count, gt_in 724 (by decide +kernel) rfl, gt_in 725 (by decide +kernel) rfl, Or.inl (gt_in 723 (by decide +kernel) rfl)⟩
theorem cv_L_115 : okV RL 115 mMod_count 1 := ⟨oy_X11_count, gt_in 1145 (by decide +kernel) rfl, gt_in 1146 (by decide +kernel) rfl, Or.inl (gt_in 1144 (by decide +kernel) rfl)⟩
theorem cv_X0_25 : okV RX0 25 mTape_isWord 0 := ⟨oy_X8_isWord, gt_in 590 (by decide +kernel) rfl, gt_in 591 (by decide +kernel) rfl, Or.inl (gt_in 589 (by decide +kernel) rfl)⟩
theorem cv_X0_32 : okV RX0 32 mTape_size 0 := ⟨oy_X8_size, gt_in 599 (by decide +kernel) rfl, gt_in 600 (by decide +kernel) rfl, Or.inl (gt_in 598 (by decide +kernel) rfl)⟩
theorem cv_X0_36 : okV RX0 36 mBook_find 2 := ⟨oy_X0_find, gt_in 527 (by decide +kernel) rfl, gt_in 528 (by decide +kernel) rfl, Or.inl (gt_in 602 (by decide +kernel) rfl)⟩
theorem cv_X0_40 : okV RX0 40 mBook_add 1 := ⟨oy_X0_add, gt_in 605 (by decide +kernel) rfl, gt_sel 13 rfl, Or.inl (gt_in 603 (by decide +kernel) rfl)⟩
theorem cv_X0_44 : okV RX0 44 mBook_has 1 := ⟨oy_X0_has, gt_in 488 (by decide +kernel) rfl, gt_sel 8 rfl, Or.inl (gt_in 486 (by decide +kernel) rfl)⟩
theorem cv_X0_57 : okV RX0 57 mTape_signAt 1 := ⟨oy_X8_signAt, gt_in 611 (by decide +kernel) rfl, gt_in 612 (by decide +kernel) rfl, Or.inl (gt_in 610 (by decide +kernel) rfl)⟩
theorem cv_X0_61 : okV RX0 61 mBook_beginsWith 3 := ⟨oy_X0_beginsWith, gt_in 491 (by decide +kernel) rfl, gt_in 492 (by decide +kernel) rfl, Or.inl (gt_in 530 (by decide +kernel) rfl)⟩
theorem cv_X0_65 : okV RX0 65 mBook_sizeOf 1 := ⟨oy_X0_sizeOf, gt_in 483 (by decide +kernel) rfl, gt_in 484 (by decide +kernel) rfl, Or.inl (gt_in 494 (by decide +kernel) rfl)⟩
theorem cv_X0_68 : okV RX0 68 mBook_signOf 2 := ⟨oy_X0_signOf, gt_in 496 (by decide +kernel) rfl, gt_in 497 (by decide +kernel) rfl, Or.inl (gt_in 495 (by decide +kernel) rfl)⟩
theorem cv_X1_20 : okV RX1 20 mChain_without 1 := ⟨oy_X1_without, gt_in 450 (by decide +kernel) rfl, gt_in 451 (by decide +kernel) rfl, Or.inl (gt_in 808 (by decide +kernel) rfl)⟩
theorem cv_X10_78 : okV RX10 78 mTray_add 3 := ⟨oy_X9_add, gt_in 338 (by decide +kernel) rfl, gt_in 339 (by decide +kernel) rfl, Or.inl (gt_in 337 (by decide +kernel) rfl)⟩
theorem cv_X10_82 : okV RX10 82 mDesk_showTrayAnew 0 := ⟨oy_X10_showTrayAnew, gt_in 356 (by decide +kernel) rfl, gt_sel 3 rfl, Or.inl (gt_in 354 (by decide +kernel) rfl)⟩
theorem cv_X10_85 : okV RX10 85 mTray_empty 0 := ⟨oy_X9_empty, gt_in 45 (by decide +kernel) rfl, gt_in 46 (by decide +kernel) rfl, Or.inl (gt_in 364 (by decide +kernel) rfl)⟩
theorem cv_X10_88 : okV RX10 88 mTray_has 1 := ⟨oy_X9_has, gt_in 57 (by decide +kernel) rfl, gt_in 58 (by decide +kernel) rfl, Or.inl (gt_in 369 (by decide +kernel) rfl)⟩
theorem cv_X10_92 : okV RX10 92 mTray_kindOf 1 := ⟨oy_X9_kindOf, gt_in 342 (by decide +kernel) rfl, gt_in 343 (by decide +kernel) rfl, Or.inl (gt_in 370 (by decide +kernel) rfl)⟩
theorem cv_X10_96 : okV RX10 96 mTray_valueOf 1 := ⟨oy_X9_valueOf, gt_in 372 (by decide +kernel) rfl, gt_in 373 (by decide +kernel) rfl, Or.inl (gt_in 371 (by decide +kernel) rfl)⟩
theorem cv_X10_99 : okV RX10 99 mTray_groupOf 1 := ⟨oy_X9_groupOf, gt_in 376 (by decide +kernel) rfl, gt_in 377 (by decide +kernel) rfl, Or.inl (gt_in 375 (by decide +kernel) rfl)⟩
theorem cv_X10_102 : okV RX10 102 mTray_placeOf 1 := ⟨oy_X9_placeOf, gt_in 380 (by decide +kernel) rfl, gt_in 381 (by decide +kernel) rfl, Or.inl (gt_in 379 (by decide +kernel) rfl)⟩
theorem cv_X10_105 : okV RX10 105 mTray_lightsOf 1 := ⟨oy_X9_lightsOf, gt_in 384 (by decide +kernel) rfl, gt_in 385 (by decide +kernel) rfl, Or.inl (gt_in 383 (by decide +kernel) rfl)⟩
theorem cv_X10_108 : okV RX10 108 mNumbers_change 2 := ⟨oy_X4_change, gt_in 392 (by decide +kernel) rfl, gt_in 393 (by decide +kernel) rfl, Or.inl (gt_in 391 (by decide +kernel) rfl)⟩
theorem cv_X10_112 : okV RX10 112 mLamp_pass 1 := ⟨oy_X3_pass, gt_in 405 (by decide +kernel) rfl, gt_in 406 (by decide +kernel) rfl, Or.inl (gt_in 404 (by decide +kernel) rfl)⟩
theorem cv_X10_115 : okV RX10 115 mLamp_take 0 := ⟨oy_X3_take, gt_in 430 (by decide +kernel) rfl, gt_in 431 (by decide +kernel) rfl, Or.inl (gt_in 429 (by decide +kernel) rfl)⟩
theorem cv_X10_119 : okV RX10 119 mLamp_comeTo 1 := ⟨oy_X3_comeTo, gt_in 116 (by decide +kernel) rfl, gt_in 117 (by decide +kernel) rfl, Or.inl (gt_in 359 (by decide +kernel) rfl)⟩
theorem cv_X10_123 : okV RX10 123 mDesk_act 1 := ⟨oy_X10_act, gt_in 435 (by decide +kernel) rfl, gt_sel 5 rfl, Or.inl (gt_in 433 (by decide +kernel) rfl)⟩
theorem cv_X10_126 : okV RX10 126 mSheet_undoable 0 := ⟨oy_X7_undoable, gt_in 545 (by decide +kernel) rfl, gt_in 546 (by decide +kernel) rfl, Or.inl (gt_in 544 (by decide +kernel) rfl)⟩
theorem cv_X10_129 : okV RX10 129 mLamp_tell 1 := ⟨oy_X3_tell, gt_in 549 (by decide +kernel) rfl, gt_in 550 (by decide +kernel) rfl, Or.inl (gt_in 548 (by decide +kernel) rfl)⟩
theorem cv_X10_132 : okV RX10 132 mSheet_part 1 := ⟨oy_X7_part, gt_in 557 (by decide +kernel) rfl, gt_in 558 (by decide +kernel) rfl, Or.inl (gt_in 556 (by decide +kernel) rfl)⟩
theorem cv_X10_145 : okV RX10 145 mChain_signAt 1 := ⟨oy_X1_signAt, gt_in 805 (by decide +kernel) rfl, gt_in 806 (by decide +kernel) rfl, Or.inl (gt_in 804 (by decide +kernel) rfl)⟩
theorem cv_X10_148 : okV RX10 148 mTape_take 2 := ⟨oy_X8_take, gt_in 565 (by decide +kernel) rfl, gt_in 566 (by decide +kernel) rfl, Or.inl (gt_in 564 (by decide +kernel) rfl)⟩
theorem cv_X10_151 : okV RX10 151 mTape_cut 1 := ⟨oy_X8_cut, gt_in 576 (by decide +kernel) rfl, gt_in 577 (by decide +kernel) rfl, Or.inl (gt_in 575 (by decide +kernel) rfl)⟩
theorem cv_X10_154 : okV RX10 154 mBook_take 2 := ⟨oy_X0_take, gt_in 585 (by decide +kernel) rfl, gt_in 586 (by decide +kernel) rfl, Or.inl (gt_in 584 (by decide +kernel) rfl)⟩
theorem cv_X10_157 : okV RX10 157 mBook_sizeOf 1 := ⟨oy_X0_sizeOf, gt_in 483 (by decide +kernel) rfl, gt_in 484 (by decide +kernel) rfl, Or.inl (gt_in 816 (by decide +kernel) rfl)⟩
theorem cv_X10_160 : okV RX10 160 mBook_signOf 2 := ⟨oy_X0_signOf, gt_in 496 (by decide +kernel) rfl, gt_in 497 (by decide +kernel) rfl, Or.inl (gt_in 817 (by decide +kernel) rfl)⟩
theorem cv_X10_163 : okV RX10 163 mFinder_seekForeseen 0 := ⟨oy_X2_seekForeseen, gt_in 462 (by decide +kernel) rfl, gt_in 463 (by decide +kernel) rfl, Or.inl (gt_in 461 (by decide +kernel) rfl)⟩
theorem cv_X10_166 : okV RX10 166 mFinder_foundAt 1 := ⟨oy_X2_foundAt, gt_in 512 (by decide +kernel) rfl, gt_in 513 (by decide +kernel) rfl, Or.inl (gt_in 511 (by decide +kernel) rfl)⟩
theorem cv_X10_169 : okV RX10 169 mFinder_seekOffered 0 := ⟨oy_X2_seekOffered, gt_in 523 (by decide +kernel) rfl, gt_in 524 (by decide +kernel) rfl, Or.inl (gt_in 522 (by decide +kernel) rfl)⟩
theorem cv_X10_175 : okV RX10 175 mTray_areNeighbours 2 := ⟨oy_X9_areNeighbours, gt_in 537 (by decide +kernel) rfl, gt_in 538 (by decide +kernel) rfl, Or.inl (gt_in 627 (by decide +kernel) rfl)⟩
theorem cv_X10_178 : okV RX10 178 mShares_change 2 := ⟨oy_X6_change, gt_in 633 (by decide +kernel) rfl, gt_in 634 (by decide +kernel) rfl, Or.inl (gt_in 632 (by decide +kernel) rfl)⟩
theorem cv_X10_179 : okV RX10 179 mShares_costOf 1 := ⟨oy_X6_costOf, gt_in 643 (by decide +kernel) rfl, gt_in 644 (by decide +kernel) rfl, Or.inl (gt_in 642 (by decide +kernel) rfl)⟩
theorem cv_X10_182 : okV RX10 182 mShares_meanPart 1 := ⟨oy_X6_meanPart, gt_in 654 (by decide +kernel) rfl, gt_in 655 (by decide +kernel) rfl, Or.inl (gt_in 653 (by decide +kernel) rfl)⟩
theorem cv_X10_186 : okV RX10 186 mTape_isRow 0 := ⟨oy_X8_isRow, gt_in 679 (by decide +kernel) rfl, gt_in 680 (by decide +kernel) rfl, Or.inl (gt_in 678 (by decide +kernel) rfl)⟩
theorem cv_X10_190 : okV RX10 190 mPlan_solve 1 := ⟨oy_X5_solve, gt_in 683 (by decide +kernel) rfl, gt_in 684 (by decide +kernel) rfl, Or.inl (gt_in 682 (by decide +kernel) rfl)⟩
theorem cv_X10_194 : okV RX10 194 mPlan_build 1 := ⟨oy_X5_build, gt_in 713 (by decide +kernel) rfl, gt_in 714 (by decide +kernel) rfl, Or.inl (gt_in 712 (by decide +kernel) rfl)⟩
theorem cv_X10_198 : okV RX10 198 mTray_size 0 := ⟨oy_X9_size, gt_in 664 (by decide +kernel) rfl, gt_in 665 (by decide +kernel) rfl, Or.inl (gt_in 727 (by decide +kernel) rfl)⟩
theorem cv_X10_200 : okV RX10 200 mBook_size 0 := ⟨oy_X0_size, gt_in 479 (by decide +kernel) rfl, gt_in 480 (by decide +kernel) rfl, Or.inl (gt_in 728 (by decide +kernel) rfl)⟩
theorem cv_X10_201 : okV RX10 201 mTape_size 0 := ⟨oy_X8_size, gt_in 599 (by decide +kernel) rfl, gt_in 600 (by decide +kernel) rfl, Or.inl (gt_in 729 (by decide +kernel) rfl)⟩
theorem cv_X10_202 : okV RX10 202 mSheet_written 0 := ⟨oy_X7_written, gt_in 470 (by decide +kernel) rfl, gt_in 471 (by decide +kernel) rfl, Or.inl (gt_in 730 (by decide +kernel) rfl)⟩
theorem cv_X10_205 : okV RX10 205 mFinder_found 0 := ⟨oy_X2_found, gt_in 732 (by decide +kernel) rfl, gt_in 733 (by decide +kernel) rfl, Or.inl (gt_in 731 (by decide +kernel) rfl)⟩
theorem cv_X10_208 : okV RX10 208 mTray_findLights 0 := ⟨oy_X9_findLights, gt_in 49 (by decide +kernel) rfl, gt_in 50 (by decide +kernel) rfl, Or.inl (gt_in 358 (by decide +kernel) rfl)⟩
theorem cv_X10_211 : okV RX10 211 mSheet_write 1 := ⟨oy_X7_write, gt_in 438 (by decide +kernel) rfl, gt_in 439 (by decide +kernel) rfl, Or.inl (gt_in 437 (by decide +kernel) rfl)⟩
theorem cv_X10_214 : okV RX10 214 mSheet_dropLast 0 := ⟨oy_X7_dropLast, gt_in 446 (by decide +kernel) rfl, gt_in 447 (by decide +kernel) rfl, Or.inl (gt_in 445 (by decide +kernel) rfl)⟩
theorem cv_X10_217 : okV RX10 217 mSheet_takeBack 0 := ⟨oy_X7_takeBack, gt_in 454 (by decide +kernel) rfl, gt_in 455 (by decide +kernel) rfl, Or.inl (gt_in 453 (by decide +kernel) rfl)⟩
theorem cv_X10_220 : okV RX10 220 mSheet_speak 0 := ⟨oy_X7_speak, gt_in 458 (by decide +kernel) rfl, gt_in 459 (by decide +kernel) rfl, Or.inl (gt_in 457 (by decide +kernel) rfl)⟩
theorem cv_X10_223 : okV RX10 223 mSheet_complete 3 := ⟨oy_X7_complete, gt_in 516 (by decide +kernel) rfl, gt_in 517 (by decide +kernel) rfl, Or.inl (gt_in 515 (by decide +kernel) rfl)⟩
theorem cv_X11_95 : okV RX11 95 mMod_looks 0 := ⟨oy_X11_looks, gt_in 826 (by decide +kernel) rfl, gt_sel 21 rfl, Or.inl (gt_in 824 (by decide +kernel) rfl)⟩
theorem cv_X11_116 : okV RX11 116 mMod_isNode 1 := ⟨oy_X11_isNode, gt_in 955 (by decide +kernel) rfl, gt_sel 22 rfl, Or.inl (gt_in 953 (by decide +kernel) rfl)⟩
theorem cv_X11_127 : okV RX11 127 mMod_adds 3 := ⟨oy_X11_adds, gt_in 965 (by decide +kernel) rfl, gt_sel 23 rfl, Or.inl (gt_in 963 (by decide +kernel) rfl)⟩
theorem cv_X11_131 : okV RX11 131 mMod_comes 1 := ⟨oy_X11_comes, gt_in 969 (by decide +kernel) rfl, gt_sel 24 rfl, Or.inl (gt_in 967 (by decide +kernel) rfl)⟩
theorem cv_X11_135 : okV RX11 135 mMod_placeOf 1 := ⟨oy_X11_placeOf, gt_in 981 (by decide +kernel) rfl, gt_sel 25 rfl, Or.inl (gt_in 979 (by decide +kernel) rfl)⟩
theorem cv_X11_139 : okV RX11 139 mMod_lights 1 := ⟨oy_X11_lights, gt_in 985 (by decide +kernel) rfl, gt_sel 26 rfl, Or.inl (gt_in 983 (by decide +kernel) rfl)⟩
theorem cv_X11_143 : okV RX11 143 mMod_ticks 0 := ⟨oy_X11_ticks, gt_in 998 (by decide +kernel) rfl, gt_sel 27 rfl, Or.inl (gt_in 996 (by decide +kernel) rfl)⟩
theorem cv_X11_146 : okV RX11 146 mMod_light 2 := ⟨oy_X11_light, gt_in 1002 (by decide +kernel) rfl, gt_sel 28 rfl, Or.inl (gt_in 1000 (by decide +kernel) rfl)⟩
theorem cv_X11_153 : okV RX11 153 mMod_acts 1 := ⟨oy_X11_acts, gt_in 1010 (by decide +kernel) rfl, gt_sel 29 rfl, Or.inl (gt_in 1008 (by decide +kernel) rfl)⟩
theorem cv_X11_162 : okV RX11 162 mMod_keep 0 := ⟨oy_X11_keep, gt_in 1014 (by decide +kernel) rfl, gt_sel 30 rfl, Or.inl (gt_in 1012 (by decide +kernel) rfl)⟩
theorem cv_X11_165 : okV RX11 165 mMod_put 1 := ⟨oy_X11_put, gt_in 1018 (by decide +kernel) rfl, gt_sel 31 rfl, Or.inl (gt_in 1016 (by decide +kernel) rfl)⟩
theorem cv_X11_168 : okV RX11 168 mMod_undo 0 := ⟨oy_X11_undo, gt_in 1022 (by decide +kernel) rfl, gt_sel 32 rfl, Or.inl (gt_in 1020 (by decide +kernel) rfl)⟩
theorem cv_X11_171 : okV RX11 171 mMod_foreseenAt 1 := ⟨oy_X11_foreseenAt, gt_in 1026 (by decide +kernel) rfl, gt_sel 33 rfl, Or.inl (gt_in 1024 (by decide +kernel) rfl)⟩
theorem cv_X11_174 : okV RX11 174 mMod_written 0 := ⟨oy_X11_written, gt_in 1030 (by decide +kernel) rfl, gt_sel 34 rfl, Or.inl (gt_in 1028 (by decide +kernel) rfl)⟩
theorem cv_X11_178 : okV RX11 178 mMod_offeredAt 1 := ⟨oy_X11_offeredAt, gt_in 1038 (by decide +kernel) rfl, gt_sel 36 rfl, Or.inl (gt_in 1036 (by decide +kernel) rfl)⟩
theorem cv_X11_187 : okV RX11 187 mMod_isRow 0 := ⟨oy_X11_isRow, gt_in 1073 (by decide +kernel) rfl, gt_sel 38 rfl, Or.inl (gt_in 1071 (by decide +kernel) rfl)⟩
theorem cv_X11_194 : okV RX11 194 mMod_isWord 1 := ⟨oy_X11_isWord, gt_in 1077 (by decide +kernel) rfl, gt_sel 39 rfl, Or.inl (gt_in 1075 (by decide +kernel) rfl)⟩
theorem cv_X11_197 : okV RX11 197 mMod_ranked 1 := ⟨oy_X11_ranked, gt_in 1034 (by decide +kernel) rfl, gt_sel 35 rfl, Or.inl (gt_in 1032 (by decide +kernel) rfl)⟩
theorem cv_X11_200 : okV RX11 200 mMod_areNear 2 := ⟨oy_X11_areNear, gt_in 1042 (by decide +kernel) rfl, gt_sel 37 rfl, Or.inl (gt_in 1040 (by decide +kernel) rfl)⟩
theorem cv_X11_204 : okV RX11 204 mMod_hasKey 1 := ⟨oy_X11_hasKey, gt_in 1105 (by decide +kernel) rfl, gt_sel 40 rfl, Or.inl (gt_in 1103 (by decide +kernel) rfl)⟩
theorem cv_X11_207 : okV RX11 207 mMod_costOf 1 := ⟨oy_X11_costOf, gt_in 1109 (by decide +kernel) rfl, gt_sel 41 rfl, Or.inl (gt_in 1107 (by decide +kernel) rfl)⟩
theorem cv_X11_212 : okV RX11 212 mMod_weight 2 := ⟨oy_X11_weight, gt_in 1131 (by decide +kernel) rfl, gt_sel 44 rfl, Or.inl (gt_in 1129 (by decide +kernel) rfl)⟩
theorem cv_X11_220 : okV RX11 220 mMod_item 3 := ⟨oy_X11_item, gt_in 1127 (by decide +kernel) rfl, gt_sel 43 rfl, Or.inl (gt_in 1125 (by decide +kernel) rfl)⟩
theorem cv_X11_235 : okV RX11 235 mMod_lays 5 := ⟨oy_X11_lays, gt_in 1142 (by decide +kernel) rfl, gt_sel 45 rfl, Or.inl (gt_in 1140 (by decide +kernel) rfl)⟩
theorem cv_X11_239 : okV RX11 239 mMod_sums 1 := ⟨oy_X11_sums, gt_in 1122 (by decide +kernel) rfl, gt_sel 42 rfl, Or.inl (gt_in 1120 (by decide +kernel) rfl)⟩
theorem cv_X2_39 : okV RX2 39 mFinder_readWritten 0 := ⟨oy_X2_readWritten, gt_in 467 (by decide +kernel) rfl, gt_sel 7 rfl, Or.inl (gt_in 465 (by decide +kernel) rfl)⟩
theorem cv_X2_43 : okV RX2 43 mBook_size 0 := ⟨oy_X0_size, gt_in 479 (by decide +kernel) rfl, gt_in 480 (by decide +kernel) rfl, Or.inl (gt_in 478 (by decide +kernel) rfl)⟩
theorem cv_X2_46 : okV RX2 46 mBook_sizeOf 1 := ⟨oy_X0_sizeOf, gt_in 483 (by decide +kernel) rfl, gt_in 484 (by decide +kernel) rfl, Or.inl (gt_in 482 (by decide +kernel) rfl)⟩
theorem cv_X2_50 : okV RX2 50 mBook_beginsWith 3 := ⟨oy_X0_beginsWith, gt_in 491 (by decide +kernel) rfl, gt_in 492 (by decide +kernel) rfl, Or.inl (gt_in 490 (by decide +kernel) rfl)⟩
theorem cv_X2_54 : okV RX2 54 mFinder_enlist 2 := ⟨oy_X2_enlist, gt_in 501 (by decide +kernel) rfl, gt_sel 9 rfl, Or.inl (gt_in 499 (by decide +kernel) rfl)⟩
theorem cv_X2_58 : okV RX2 58 mBook_find 2 := ⟨oy_X0_find, gt_in 527 (by decide +kernel) rfl, gt_in 528 (by decide +kernel) rfl, Or.inl (gt_in 526 (by decide +kernel) rfl)⟩
theorem cv_X2_62 : okV RX2 62 mFinder_slipsOf 2 := ⟨oy_X2_slipsOf, gt_in 533 (by decide +kernel) rfl, gt_sel 11 rfl, Or.inl (gt_in 531 (by decide +kernel) rfl)⟩
theorem cv_X2_66 : okV RX2 66 mSheet_written 0 := ⟨oy_X7_written, gt_in 470 (by decide +kernel) rfl, gt_in 471 (by decide +kernel) rfl, Or.inl (gt_in 469 (by decide +kernel) rfl)⟩
theorem cv_X2_70 : okV RX2 70 mSheet_copyLast 2 := ⟨oy_X7_copyLast, gt_in 475 (by decide +kernel) rfl, gt_in 476 (by decide +kernel) rfl, Or.inl (gt_in 474 (by decide +kernel) rfl)⟩
theorem cv_X2_74 : okV RX2 74 mBook_signOf 2 := ⟨oy_X0_signOf, gt_in 496 (by decide +kernel) rfl, gt_in 497 (by decide +kernel) rfl, Or.inl (gt_in 535 (by decide +kernel) rfl)⟩
theorem cv_X2_77 : okV RX2 77 mTray_areNeighbours 2 := ⟨oy_X9_areNeighbours, gt_in 537 (by decide +kernel) rfl, gt_in 538 (by decide +kernel) rfl, Or.inl (gt_in 536 (by decide +kernel) rfl)⟩
theorem cv_X2_83 : okV RX2 83 mFinder_isBetter 3 := ⟨oy_X2_isBetter, gt_in 505 (by decide +kernel) rfl, gt_sel 10 rfl, Or.inl (gt_in 503 (by decide +kernel) rfl)⟩
theorem cv_X2_87 : okV RX2 87 mBook_timesOf 1 := ⟨oy_X0_timesOf, gt_in 508 (by decide +kernel) rfl, gt_in 509 (by decide +kernel) rfl, Or.inl (gt_in 507 (by decide +kernel) rfl)⟩
theorem cv_X3_19 : okV RX3 19 mLamp_comeTo 1 := ⟨oy_X3_comeTo, gt_in 116 (by decide +kernel) rfl, gt_in 117 (by decide +kernel) rfl, Or.inl (gt_in 115 (by decide +kernel) rfl)⟩
theorem cv_X3_27 : okV RX3 27 mTray_firstIn 1 := ⟨oy_X9_firstIn, gt_in 120 (by decide +kernel) rfl, gt_in 121 (by decide +kernel) rfl, Or.inl (gt_in 119 (by decide +kernel) rfl)⟩
theorem cv_X3_53 : okV RX3 53 mNumbers_get 1 := ⟨oy_X4_get, gt_in 411 (by decide +kernel) rfl, gt_in 412 (by decide +kernel) rfl, Or.inl (gt_in 410 (by decide +kernel) rfl)⟩
theorem cv_X3_64 : okV RX3 64 mLamp_change 0 := ⟨oy_X3_change, gt_in 419 (by decide +kernel) rfl, gt_sel 4 rfl, Or.inl (gt_in 417 (by decide +kernel) rfl)⟩
theorem cv_X3_67 : okV RX3 67 mTray_behind 1 := ⟨oy_X9_behind, gt_in 422 (by decide +kernel) rfl, gt_in 423 (by decide +kernel) rfl, Or.inl (gt_in 421 (by decide +kernel) rfl)⟩
theorem cv_X5_33 : okV RX5 33 mTape_size 0 := ⟨oy_X8_size, gt_in 599 (by decide +kernel) rfl, gt_in 600 (by decide +kernel) rfl, Or.inl (gt_in 686 (by decide +kernel) rfl)⟩
theorem cv_X5_37 : okV RX5 37 mTape_signAt 1 := ⟨oy_X8_signAt, gt_in 611 (by decide +kernel) rfl, gt_in 612 (by decide +kernel) rfl, Or.inl (gt_in 687 (by decide +kernel) rfl)⟩
theorem cv_X5_41 : okV RX5 41 mShares_shareOf 1 := ⟨oy_X6_shareOf, gt_in 689 (by decide +kernel) rfl, gt_in 690 (by decide +kernel) rfl, Or.inl (gt_in 688 (by decide +kernel) rfl)⟩
theorem cv_X5_46 : okV RX5 46 mPlan_firstEnd 2 := ⟨oy_X5_firstEnd, gt_in 694 (by decide +kernel) rfl, gt_sel 15 rfl, Or.inl (gt_in 692 (by decide +kernel) rfl)⟩
theorem cv_X5_50 : okV RX5 50 mPlan_costWith 3 := ⟨oy_X5_costWith, gt_in 698 (by decide +kernel) rfl, gt_sel 16 rfl, Or.inl (gt_in 696 (by decide +kernel) rfl)⟩
theorem cv_X5_54 : okV RX5 54 mPlan_leastOf 2 := ⟨oy_X5_leastOf, gt_in 702 (by decide +kernel) rfl, gt_sel 17 rfl, Or.inl (gt_in 700 (by decide +kernel) rfl)⟩
theorem cv_X5_57 : okV RX5 57 mNumbers_get 1 := ⟨oy_X4_get, gt_in 411 (by decide +kernel) rfl, gt_in 412 (by decide +kernel) rfl, Or.inl (gt_in 707 (by decide +kernel) rfl)⟩
theorem cv_X5_62 : okV RX5 62 mPlan_sumOf 2 := ⟨oy_X5_sumOf, gt_in 710 (by decide +kernel) rfl, gt_sel 18 rfl, Or.inl (gt_in 708 (by decide +kernel) rfl)⟩
theorem cv_X5_69 : okV RX5 69 mPlan_openAt 3 := ⟨oy_X5_openAt, gt_in 718 (by decide +kernel) rfl, gt_sel 19 rfl, Or.inl (gt_in 716 (by decide +kernel) rfl)⟩
theorem cv_X5_73 : okV RX5 73 mTray_add 3 := ⟨oy_X9_add, gt_in 338 (by decide +kernel) rfl, gt_in 339 (by decide +kernel) rfl, Or.inl (gt_in 722 (by decide +kernel) rfl)⟩
theorem cv_X5_76 : okV RX5 76 mTray_groupOf 1 := ⟨oy_X9_groupOf, gt_in 376 (by decide +kernel) rfl, gt_in 377 (by decide +kernel) rfl, Or.inl (gt_in 720 (by decide +kernel) rfl)⟩
theorem cv_X6_34 : okV RX6 34 mTray_placeOf 1 := ⟨oy_X9_placeOf, gt_in 380 (by decide +kernel) rfl, gt_in 381 (by decide +kernel) rfl, Or.inl (gt_in 646 (by decide +kernel) rfl)⟩
theorem cv_X6_40 : okV RX6 40 mNumbers_get 1 := ⟨oy_X4_get, gt_in 411 (by decide +kernel) rfl, gt_in 412 (by decide +kernel) rfl, Or.inl (gt_in 647 (by decide +kernel) rfl)⟩
theorem cv_X6_45 : okV RX6 45 mTray_groupOf 1 := ⟨oy_X9_groupOf, gt_in 376 (by decide +kernel) rfl, gt_in 377 (by decide +kernel) rfl, Or.inl (gt_in 648 (by decide +kernel) rfl)⟩
theorem cv_X6_50 : okV RX6 50 mShares_findLeasts 0 := ⟨oy_X6_findLeasts, gt_in 660 (by decide +kernel) rfl, gt_sel 14 rfl, Or.inl (gt_in 658 (by decide +kernel) rfl)⟩
theorem cv_X6_63 : okV RX6 63 mTray_size 0 := ⟨oy_X9_size, gt_in 664 (by decide +kernel) rfl, gt_in 665 (by decide +kernel) rfl, Or.inl (gt_in 663 (by decide +kernel) rfl)⟩
theorem cv_X6_67 : okV RX6 67 mTray_valueOf 1 := ⟨oy_X9_valueOf, gt_in 372 (by decide +kernel) rfl, gt_in 373 (by decide +kernel) rfl, Or.inl (gt_in 667 (by decide +kernel) rfl)⟩
theorem cv_X6_70 : okV RX6 70 mTray_kindOf 1 := ⟨oy_X9_kindOf, gt_in 342 (by decide +kernel) rfl, gt_in 343 (by decide +kernel) rfl, Or.inl (gt_in 668 (by decide +kernel) rfl)⟩
theorem cv_X6_73 : okV RX6 73 mShares_costOf 1 := ⟨oy_X6_costOf, gt_in 643 (by decide +kernel) rfl, gt_in 644 (by decide +kernel) rfl, Or.inl (gt_in 669 (by decide +kernel) rfl)⟩
theorem cv_X7_50 : okV RX7 50 mSheet_keep 0 := ⟨oy_X7_keep, gt_in 443 (by decide +kernel) rfl, gt_sel 6 rfl, Or.inl (gt_in 441 (by decide +kernel) rfl)⟩
theorem cv_X7_53 : okV RX7 53 mChain_without 1 := ⟨oy_X1_without, gt_in 450 (by decide +kernel) rfl, gt_in 451 (by decide +kernel) rfl, Or.inl (gt_in 449 (by decide +kernel) rfl)⟩
theorem cv_X7_57 : okV RX7 57 mBook_sizeOf 1 := ⟨oy_X0_sizeOf, gt_in 483 (by decide +kernel) rfl, gt_in 484 (by decide +kernel) rfl, Or.inl (gt_in 519 (by decide +kernel) rfl)⟩
theorem cv_X7_63 : okV RX7 63 mSheet_written 0 := ⟨oy_X7_written, gt_in 470 (by decide +kernel) rfl, gt_in 471 (by decide +kernel) rfl, Or.inl (gt_in 520 (by decide +kernel) rfl)⟩
theorem cv_X7_67 : okV RX7 67 mBook_signOf 2 := ⟨oy_X0_signOf, gt_in 496 (by decide +kernel) rfl, gt_in 497 (by decide +kernel) rfl, Or.inl (gt_in 521 (by decide +kernel) rfl)⟩
theorem cv_X8_27 : okV RX8 27 mTape_lettersAlone 0 := ⟨oy_X8_lettersAlone, gt_in 595 (by decide +kernel) rfl, gt_sel 12 rfl, Or.inl (gt_in 593 (by decide +kernel) rfl)⟩
theorem cv_X9_43 : okV RX9 43 mTray_empty 0 := ⟨oy_X9_empty, gt_in 45 (by decide +kernel) rfl, gt_in 46 (by decide +kernel) rfl, Or.inl (gt_in 44 (by decide +kernel) rfl)⟩
theorem cv_X9_46 : okV RX9 46 mTray_findLights 0 := ⟨oy_X9_findLights, gt_in 49 (by decide +kernel) rfl, gt_in 50 (by decide +kernel) rfl, Or.inl (gt_in 48 (by decide +kernel) rfl)⟩
theorem cv_X9_53 : okV RX9 53 mTray_kindOf 1 := ⟨oy_X9_kindOf, gt_in 342 (by decide +kernel) rfl, gt_in 343 (by decide +kernel) rfl, Or.inl (gt_in 341 (by decide +kernel) rfl)⟩
theorem cv_X9_72 : okV RX9 72 mTray_findLighted 0 := ⟨oy_X9_findLighted, gt_in 54 (by decide +kernel) rfl, gt_sel 0 rfl, Or.inl (gt_in 52 (by decide +kernel) rfl)⟩
theorem cv_X9_81 : okV RX9 81 mTray_has 1 := ⟨oy_X9_has, gt_in 57 (by decide +kernel) rfl, gt_in 58 (by decide +kernel) rfl, Or.inl (gt_in 56 (by decide +kernel) rfl)⟩
theorem cv_X9_84 : okV RX9 84 mTray_standBehind 2 := ⟨oy_X9_standBehind, gt_in 65 (by decide +kernel) rfl, gt_sel 1 rfl, Or.inl (gt_in 63 (by decide +kernel) rfl)⟩
theorem cv_X9_88 : okV RX9 88 mTray_join 2 := ⟨oy_X9_join, gt_in 69 (by decide +kernel) rfl, gt_sel 2 rfl, Or.inl (gt_in 67 (by decide +kernel) rfl)⟩
theorem cs_X0_21 : okS RX0 21 mDesk_within 3 := ⟨oy_X10_within, gt_in 349 (by decide +kernel) rfl, Or.inr ⟨"SwitchDesk", nst_in 588 (by decide +kernel)⟩⟩
theorem cs_X10_172 : okS RX10 172 mDesk_isLetter 1 := ⟨oy_X10_isLetter, gt_in 72 (by decide +kernel) rfl, Or.inl (gt_in 626 (by decide +kernel) rfl)⟩
theorem cs_X11_120 : okS RX11 120 mMod_isIn 3 := ⟨oy_X11_isIn, gt_in 958 (by decide +kernel) rfl, Or.inl (gt_in 957 (by decide +kernel) rfl)⟩
theorem cs_X11_124 : okS RX11 124 mMod_isSmall 1 := ⟨oy_X11_isSmall, gt_in 961 (by decide +kernel) rfl, Or.inl (gt_in 960 (by decide +kernel) rfl)⟩
theorem cs_X11_184 : okS RX11 184 mMod_bytesIn 1 := ⟨oy_X11_bytesIn, gt_in 1061 (by decide +kernel) rfl, Or.inl (gt_in 1060 (by decide +kernel) rfl)⟩
theorem cs_X11_224 : okS RX11 224 mMod_index 3 := ⟨oy_X11_index, gt_in 1134 (by decide +kernel) rfl, Or.inl (gt_in 1133 (by decide +kernel) rfl)⟩
theorem cs_X3_48 : okS RX3 48 mDesk_within 3 := ⟨oy_X10_within, gt_in 349 (by decide +kernel) rfl, Or.inr ⟨"SwitchDesk", nst_in 408 (by decide +kernel)⟩⟩
theorem cs_X4_15 : okS RX4 15 mDesk_within 3 := ⟨oy_X10_within, gt_in 349 (by decide +kernel) rfl, Or.inr ⟨"SwitchDesk", nst_in 395 (by decide +kernel)⟩⟩
theorem cs_X5_65 : okS RX5 65 mPlan_isPart 2 := ⟨oy_X5_isPart, gt_in 705 (by decide +kernel) rfl, Or.inl (gt_in 704 (by decide +kernel) rfl)⟩
theorem cs_X6_26 : okS RX6 26 mDesk_isLetter 1 := ⟨oy_X10_isLetter, gt_in 72 (by decide +kernel) rfl, Or.inr ⟨"SwitchDesk", nst_in 636 (by decide +kernel)⟩⟩
theorem cs_X6_30 : okS RX6 30 mDesk_within 3 := ⟨oy_X10_within, gt_in 349 (by decide +kernel) rfl, Or.inr ⟨"SwitchDesk", nst_in 637 (by decide +kernel)⟩⟩
theorem cs_X6_53 : okS RX6 53 mShares_commonDivisor 2 := ⟨oy_X6_commonDivisor, gt_in 672 (by decide +kernel) rfl, Or.inl (gt_in 671 (by decide +kernel) rfl)⟩
theorem cs_X6_57 : okS RX6 57 mArrays_fill 2 := ⟨oy_J7_fill_53178, gt_in 61 (by decide +kernel) rfl, Or.inl (gt_in 662 (by decide +kernel) rfl)⟩
theorem cs_X7_43 : okS RX7 43 mDesk_isLetter 1 := ⟨oy_X10_isLetter, gt_in 72 (by decide +kernel) rfl, Or.inr ⟨"SwitchDesk", nst_in 473 (by decide +kernel)⟩⟩
theorem cs_X8_15 : okS RX8 15 mTape_fedByte 3 := ⟨oy_X8_fedByte, gt_in 569 (by decide +kernel) rfl, Or.inl (gt_in 568 (by decide +kernel) rfl)⟩
theorem cs_X8_23 : okS RX8 23 mDesk_within 3 := ⟨oy_X10_within, gt_in 349 (by decide +kernel) rfl, Or.inr ⟨"SwitchDesk", nst_in 579 (by decide +kernel)⟩⟩
theorem cs_X8_31 : okS RX8 31 mDesk_isLetter 1 := ⟨oy_X10_isLetter, gt_in 72 (by decide +kernel) rfl, Or.inr ⟨"SwitchDesk", nst_in 597 (by decide +kernel)⟩⟩
theorem cs_X9_57 : okS RX9 57 mTray_takes 2 := ⟨oy_X9_takes, gt_in 346 (by decide +kernel) rfl, Or.inl (gt_in 345 (by decide +kernel) rfl)⟩
theorem cs_X9_61 : okS RX9 61 mTray_hasValue 1 := ⟨oy_X9_hasValue, gt_in 352 (by decide +kernel) rfl, Or.inl (gt_in 351 (by decide +kernel) rfl)⟩
theorem cs_X9_65 : okS RX9 65 mDesk_isLetter 1 := ⟨oy_X10_isLetter, gt_in 72 (by decide +kernel) rfl, Or.inr ⟨"SwitchDesk", nst_in 71 (by decide +kernel)⟩⟩
theorem cs_X9_68 : okS RX9 68 mDesk_within 3 := ⟨oy_X10_within, gt_in 349 (by decide +kernel) rfl, Or.inr ⟨"SwitchDesk", nst_in 348 (by decide +kernel)⟩⟩
theorem cs_X9_75 : okS RX9 75 mArrays_fill 2 := ⟨oy_J7_fill_53178, gt_in 61 (by decide +kernel) rfl, Or.inl (gt_in 60 (by decide +kernel) rfl)⟩
theorem ci_L_18 : okI RL 18 mDesk_init 0 := ⟨oy_X10_init, rfl, rfl, gt_in 22 (by decide +kernel) rfl, Or.inl (gt_in 21 (by decide +kernel) rfl)⟩
theorem ci_L_21 : okI RL 21 mMod_init 0 := ⟨oy_X11_init, rfl, rfl, gt_in 821 (by decide +kernel) rfl, Or.inl (gt_in 820 (by decide +kernel) rfl)⟩
theorem ci_X10_9 : okI RX10 9 mNumbers_init 0 := ⟨oy_X4_init, rfl, rfl, gt_in 30 (by decide +kernel) rfl, Or.inr ⟨"SwitchDesk", nst_in 29 (by decide +kernel)⟩⟩
theorem ci_X10_18 : okI RX10 18 mTray_init 0 := ⟨oy_X9_init, rfl, rfl, gt_in 41 (by decide +kernel) rfl, Or.inl (gt_in 40 (by decide +kernel) rfl)⟩
theorem ci_X10_25 : okI RX10 25 mLamp_init 2 := ⟨oy_X3_init, rfl, rfl, gt_in 112 (by decide +kernel) rfl, Or.inl (gt_in 111 (by decide +kernel) rfl)⟩
theorem ci_X10_34 : okI RX10 34 mSheet_init 0 := ⟨oy_X7_init, rfl, rfl, gt_in 157 (by decide +kernel) rfl, Or.inr ⟨"SwitchDesk", nst_in 156 (by decide +kernel)⟩⟩
theorem ci_X10_41 : okI RX10 41 mTape_init 0 := ⟨oy_X8_init, rfl, rfl, gt_in 206 (by decide +kernel) rfl, Or.inr ⟨"SwitchDesk", nst_in 205 (by decide +kernel)⟩⟩
theorem ci_X10_48 : okI RX10 48 mBook_init 0 := ⟨oy_X0_init, rfl, rfl, gt_in 220 (by decide +kernel) rfl, Or.inr ⟨"SwitchDesk", nst_in 219 (by decide +kernel)⟩⟩
theorem ci_X10_55 : okI RX10 55 mFinder_init 3 := ⟨oy_X2_init, rfl, rfl, gt_in 239 (by decide +kernel) rfl, Or.inl (gt_in 238 (by decide +kernel) rfl)⟩
theorem ci_X10_64 : okI RX10 64 mShares_init 2 := ⟨oy_X6_init, rfl, rfl, gt_in 267 (by decide +kernel) rfl, Or.inl (gt_in 266 (by decide +kernel) rfl)⟩
theorem ci_X10_71 : okI RX10 71 mPlan_init 2 := ⟨oy_X5_init, rfl, rfl, gt_in 286 (by decide +kernel) rfl, Or.inl (gt_in 285 (by decide +kernel) rfl)⟩
theorem ci_X7_11 : okI RX7 11 mChain_init 2 := ⟨oy_X1_init, rfl, rfl, gt_in 163 (by decide +kernel) rfl, Or.inl (gt_in 162 (by decide +kernel) rfl)⟩
theorem ob_i : Cond.instanceMethod Lib.objectInit ∈ GT := gt_in 25 (by decide +kernel) rfl
theorem ob_c : Cond.code Lib.objectInit ⟨#[0xb1]⟩ 1 none ∈ GT := gt_in 26 (by decide +kernel) rfl
end
section
/-! Math.max, Math.min, the constants -/
section EMa
variable {y : MI} {d k n pc : Nat} {lv : List (Nat × Value)} {st : List Value} {h : HP} {Q : Option Value → HP → Prop}
theorem ml_max : Cond.static Lib.Math.max.name ∈ GT ∧ Cond.code Lib.Math.max.name Lib.Math.max.code 2 (some .int) ∈ GT ∧ Cond.initialized "java/lang/Math" ∈ GT := ⟨gt_in 415 (by decide +kernel) rfl, gt_in 416 (by decide +kernel) rfl, gt_in 14 (by decide +kernel) rfl⟩
theorem ml_min : Cond.static Lib.Math.min.name ∈ GT ∧ Cond.code Lib.Math.min.name Lib.Math.min.code 2 (some .int) ∈ GT := ⟨gt_in 608 (by decide +kernel) rfl, gt_in 609 (by decide +kernel) rfl⟩
theorem ml_lmin : Cond.static Lib.MathLoose.min_long.x ∈ GT ∧ Cond.code Lib.MathLoose.min_long.x Lib.MathLoose.min_long.code 4 (some .long) ∈ GT := ⟨gt_in 1137 (by decide +kernel) rfl, gt_in 1138 (by decide +kernel) rfl⟩
theorem E_mmax {idx : Nat} {a b : Int32} (hd : decode y.2.1 pc = .ok (.invokestatic idx, 3)) (hg : Cond.methodLink y.1.cls idx Lib.Math.max.name ∈ GT) (hd1 : 1 ≤ d) (hw : (st.map fun v => v.category).sum ≤ 8) (K : E y d k n (pc + 3) lv (.int (if a < b then b else a) :: st) h Q) : E y d k n pc lv (.int b :: .int a :: st) h Q := by
  intro p l e R s m args below meth c H locs cells slots mc ms N0 B D ca tys ls c1 c2 c3 c4 c5 c6 c7 c8
  have hts := c1.2.2.2.2.2.1
  exact va_mmax c1.1 c1.2.1 (c1.2.2.2.1.trans c8.1.symm) c1.2.2.2.2.1 (hts _ hg) (hts _ ml_max.1) (hts _ ml_max.2.2) (hts _ ml_max.2.1) (Nat.le_trans hd1 c2.1) (by rw [cat_map]; have := c2.2.1; omega) (by have := c2.2.2.1; omega) (by have := c2.2.2.2; omega) hd (K p l e R s m args below meth c H locs cells slots mc ms N0 B D ca tys ls c1 c2 c3 c4 c5 c6 c7 c8)
theorem E_mmin {idx : Nat} {a b : Int32} (hd : decode y.2.1 pc = .ok (.invokestatic idx, 3)) (hg : Cond.methodLink y.1.cls idx Lib.Math.min.name ∈ GT) (hd1 : 1 ≤ d) (hw : (st.map fun v => v.category).sum ≤ 8) (K : E y d k n (pc + 3) lv (.int (if b < a then b else a) :: st) h Q) : E y d k n pc lv (.int b :: .int a :: st) h Q := by
  intro p l e R s m args below meth c H locs cells slots mc ms N0 B D ca tys ls c1 c2 c3 c4 c5 c6 c7 c8
  have hts := c1.2.2.2.2.2.1
  exact va_mmin c1.1 c1.2.1 (c1.2.2.2.1.trans c8.1.symm) c1.2.2.2.2.1 (hts _ hg) (hts _ ml_min.1) (hts _ ml_max.2.2) (hts _ ml_min.2) (Nat.le_trans hd1 c2.1) (by rw [cat_map]; have := c2.2.1; omega) (by have := c2.2.2.1; omega) (by have := c2.2.2.2; omega) hd (K p l e R s m args below meth c H locs cells slots mc ms N0 B D ca tys ls c1 c2 c3 c4 c5 c6 c7 c8)
theorem E_lmin {idx : Nat} {a b : Int64} (hd : decode y.2.1 pc = .ok (.invokestatic idx, 3)) (hg : Cond.methodLink y.1.cls idx Lib.MathLoose.min_long.x ∈ GT) (hd1 : 1 ≤ d) (hw : (st.map fun v => v.category).sum ≤ 8) (K : E y d k n (pc + 3) lv (.long (if b < a then b else a) :: st) h Q) : E y d k n pc lv (.long b :: .long a :: st) h Q := by
  intro p l e R s m args below meth c H locs cells slots mc ms N0 B D ca tys ls c1 c2 c3 c4 c5 c6 c7 c8
  have hts := c1.2.2.2.2.2.1
  exact va_mmin_long c1.1 c1.2.1 (c1.2.2.2.1.trans c8.1.symm) c1.2.2.2.2.1 (hts _ hg) (hts _ ml_lmin.1) (hts _ ml_max.2.2) (hts _ ml_lmin.2) (Nat.le_trans hd1 c2.1) (by rw [cat_map]; have := c2.2.1; omega) (by have := c2.2.2.1; omega) (by have := c2.2.2.2; omega) hd (K p l e R s m args below meth c H locs cells slots mc ms N0 B D ca tys ls c1 c2 c3 c4 c5 c6 c7 c8)
theorem k_52 : Cond.constant RX3 52 1000000 ∈ GT := gt_in 409 (by decide +kernel) rfl
theorem k_142 : Cond.constant RX11 142 1000000 ∈ GT := gt_in 995 (by decide +kernel) rfl
theorem k_48 : Cond.constantLong RX6 48 (-1) ∈ GT := gt_in 657 (by decide +kernel) rfl
theorem k_210 : Cond.constantLong RX11 210 (-1) ∈ GT := gt_in 1115 (by decide +kernel) rfl
theorem k_218 : Cond.constantLong RX11 218 9223372036854775807 ∈ GT := gt_in 1124 (by decide +kernel) rfl
theorem k_233 : Cond.constantLong RX11 233 2305843009213693951 ∈ GT := gt_in 1139 (by decide +kernel) rfl
theorem a_int : Cond.arrayClass (kty 0) ∈ GT := gt_in 37 (by decide +kernel) rfl
theorem a_bool : Cond.arrayClass (kty 1) ∈ GT := gt_in 108 (by decide +kernel) rfl
theorem a_byte : Cond.arrayClass (kty 2) ∈ GT := gt_in 943 (by decide +kernel) rfl
theorem a_long : Cond.arrayClass (kty 3) ∈ GT := gt_in 944 (by decide +kernel) rfl
theorem mt_X3_58 : Cond.methodLink RX3 58 Lib.Math.max.name ∈ GT := gt_in 414 (by decide +kernel) rfl
theorem mt_X0_51 : Cond.methodLink RX0 51 Lib.Math.min.name ∈ GT := gt_in 607 (by decide +kernel) rfl
theorem mt_X6_76 : Cond.methodLink RX6 76 Lib.Math.min.name ∈ GT := gt_in 670 (by decide +kernel) rfl
theorem mt_X5_79 : Cond.methodLink RX5 79 Lib.Math.max.name ∈ GT := gt_in 721 (by decide +kernel) rfl
theorem mt_X11_227 : Cond.methodLink RX11 227 Lib.MathLoose.min_long.x ∈ GT := gt_in 1136 (by decide +kernel) rfl
theorem ck_X7_9 : Cond.classLink RX7 9 "SwitchDesk$Chain" ∈ GT := gt_in 160 (by decide +kernel) rfl
theorem fs_X4_19 : Cond.fieldLink RX4 19 "SwitchDesk$Numbers" "LOWEST" "[I" ∈ GT := gt_in 396 (by decide +kernel) rfl
theorem fs_X4_22 : Cond.fieldLink RX4 22 "SwitchDesk$Numbers" "HIGHEST" "[I" ∈ GT := gt_in 398 (by decide +kernel) rfl
end EMa
end
section
/-! THE LAYOUT: the pure heap of desk, model and law, out of a state; generated by wip/tools/genlayout.py -/
abbrev Sg : Type := (Nat → Nat → Int32) × (Nat → Nat → Int32) × (Nat → Nat → Int64) × (Nat × Option Nat) × (Nat → Nat → Option Nat) × (Nat × (Nat → Int32)) × HP
abbrev Sg.A (z : Sg) : Nat → Nat → Int32 := z.1
abbrev Sg.F (z : Sg) : Nat → Nat → Int32 := z.2.1
abbrev Sg.L (z : Sg) : Nat → Nat → Int64 := z.2.2.1
abbrev Sg.T (z : Sg) : Nat := z.2.2.2.1.1
abbrev Sg.S (z : Sg) : Option Nat := z.2.2.2.1.2
abbrev Sg.P (z : Sg) : Nat → Nat → Option Nat := z.2.2.2.2.1
abbrev Sg.X (z : Sg) : Nat × (Nat → Int32) := z.2.2.2.2.2.1
abbrev Sg.D (z : Sg) : HP := z.2.2.2.2.2.2
def stA (z : Sg) (i : Nat) (f : Nat → Int32) : Sg := (va_up z.1 i f, z.2)
def stF (z : Sg) (i j : Nat) (v : Int32) : Sg := (z.1, va_up z.2.1 i (upd (z.2.1 i) j v), z.2.2)
def stL (z : Sg) (i : Nat) (f : Nat → Int64) : Sg := (z.1, z.2.1, va_up z.2.2.1 i f, z.2.2.2)
def stT (z : Sg) (t : Nat) : Sg := (z.1, z.2.1, z.2.2.1, (t, z.2.2.2.1.2), z.2.2.2.2)
def stS (z : Sg) (t : Option Nat) : Sg := (z.1, z.2.1, z.2.2.1, (z.2.2.2.1.1, t), z.2.2.2.2)
def stP (z : Sg) (i : Nat) (f : Nat → Option Nat) : Sg := (z.1, z.2.1, z.2.2.1, z.2.2.2.1, va_up z.2.2.2.2.1 i f, z.2.2.2.2.2)
def stD (z : Sg) (w : HP) : Sg := (z.1, z.2.1, z.2.2.1, z.2.2.2.1, z.2.2.2.2.1, z.2.2.2.2.2.1, w)
def lowF (j : Nat) : Int32 := match j with
  | 0 => 1
  | 1 => 1
  | _ => 0
def highF (j : Nat) : Int32 := match j with
  | 0 => 50
  | 1 => 9
  | 2 => 20
  | 3 => 20
  | _ => 50
def hp (z : Sg) : HP := [
  .inl (5, z.X.1, .inl z.X.2),
  .inl (5, 5, .inl lowF),
  .inl (5, 5, .inl highF),
  .inr (10, [.ref 4, .ref 6, .ref 17, .ref 18, .ref 22, .ref 24, .ref 28, .ref 32, .ref 35]),
  .inr (4, [.ref 5]),
  .inl (0, 5, .inl (z.A 5)),
  .inr (9, [.ref 7, .ref 8, .ref 9, .ref 10, .ref 11, .ref 12, .ref 13, .ref 14, .ref 15, .ref 16, .int (z.F 6 10)]),
  .inl (0, 60, .inl (z.A 7)),
  .inl (0, 60, .inl (z.A 8)),
  .inl (0, 60, .inl (z.A 9)),
  .inl (0, 60, .inl (z.A 10)),
  .inl (0, 60, .inl (z.A 11)),
  .inl (0, 60, .inl (z.A 12)),
  .inl (0, 60, .inl (z.A 13)),
  .inl (0, 60, .inl (z.A 14)),
  .inl (1, 60, .inl (z.A 15)),
  .inl (0, 26, .inl (z.A 16)),
  .inr (3, [.ref 6, .ref 4, .int (z.F 17 2), .int (z.F 17 3), .int (z.F 17 4), .int (z.F 17 5), .int (z.F 17 6), .int (z.F 17 7), .int (z.F 17 8), .int (z.F 17 9)]),
  .inr (7, [.ref 19, .ref 20, .ref 21, .int (z.F 18 3), .int (z.F 18 4), .ref z.T, va_rf z.S]),
  .inr (1, [.null, .int 0, .int 0]),
  .inl (4, 100, .inr (.inr (.inr (.inr (z.P 20))))),
  .inl (4, 100, .inr (.inr (.inr (.inr (z.P 21))))),
  .inr (8, [.ref 23, .int (z.F 22 1)]),
  .inl (0, 26, .inl (z.A 23)),
  .inr (0, [.ref 25, .ref 26, .ref 27, .int (z.F 24 3)]),
  .inl (0, 480, .inl (z.A 25)),
  .inl (0, 40, .inl (z.A 26)),
  .inl (0, 40, .inl (z.A 27)),
  .inr (2, [.ref 24, .ref 6, .ref 18, .ref 29, .ref 30, .ref 31, .int (z.F 28 6)]),
  .inl (0, 12, .inl (z.A 29)),
  .inl (0, 40, .inl (z.A 30)),
  .inl (0, 40, .inl (z.A 31)),
  .inr (6, [.ref 6, .ref 4, .ref 33, .ref 34]),
  .inl (0, 26, .inl (z.A 33)),
  .inl (0, 26, .inl (z.A 34)),
  .inr (5, [.ref 22, .ref 4, .ref 36, .ref 37, .ref 38]),
  .inl (0, 27, .inl (z.A 36)),
  .inl (0, 729, .inl (z.A 37)),
  .inl (0, 60, .inl (z.A 38)),
  .inr (11, [.int (z.F 39 0), .ref 40, .ref 41, .ref 42, .ref 43, .int (z.F 39 5), .ref 44, .ref 45, .ref 46, .ref 47, .int (z.F 39 10), .int (z.F 39 11), .int (z.F 39 12), .int (z.F 39 13), .int (z.F 39 14), .int (z.F 39 15), .int (z.F 39 16), .int (z.F 39 17), .ref 48, .ref 49, .ref 50, .ref 51, .ref 52, .ref 53, .int (z.F 39 24), .int (z.F 39 25), .int (z.F 39 26), .ref 54, .ref 55, .ref 56, .ref 57, .int (z.F 39 31), .int (z.F 39 32), .ref 58, .ref 59, .ref 60, .ref 61, .ref 62]),
  .inl (0, 60, .inl (z.A 40)),
  .inl (0, 60, .inl (z.A 41)),
  .inl (0, 60, .inl (z.A 42)),
  .inl (0, 5, .inl (z.A 43)),
  .inl (1, 60, .inl (z.A 44)),
  .inl (0, 3600, .inl (z.A 45)),
  .inl (0, 60, .inl (z.A 46)),
  .inl (0, 60, .inl (z.A 47)),
  .inl (2, 200, .inl (z.A 48)),
  .inl (2, 200, .inl (z.A 49)),
  .inl (2, 20000, .inl (z.A 50)),
  .inl (2, 20000, .inl (z.A 51)),
  .inl (0, 100, .inl (z.A 52)),
  .inl (0, 100, .inl (z.A 53)),
  .inl (2, 26, .inl (z.A 54)),
  .inl (2, 480, .inl (z.A 55)),
  .inl (0, 40, .inl (z.A 56)),
  .inl (0, 40, .inl (z.A 57)),
  .inl (0, 40, .inl (z.A 58)),
  .inl (0, 26, .inl (z.A 59)),
  .inl (3, 20412, .inr (.inl (z.L 60))),
  .inl (3, 729, .inr (.inl (z.L 61))),
  .inl (2, 26, .inl (z.A 62)),
  .inl (3, 1, .inr (.inl (z.L 63)))] ++ z.D
theorem hp_len (z : Sg) : (hp z).length = 64 + z.D.length := by
  unfold hp
  rw [List.length_append]
  rfl
theorem hp_dyn (z : Sg) (i : Nat) : (hp z)[64 + i]? = z.D[i]? := by
  unfold hp
  rw [List.getElem?_append_right (Nat.le_add_right 64 i)]
  exact congrArg (fun j => z.D[j]?) (Nat.add_sub_cancel_left 64 i)
theorem hp_push (z : Sg) (c : PCell) : hp z ++ [c] = hp (stD z (z.D ++ [c])) := by
  unfold hp
  rw [List.append_assoc]
  rfl
theorem hg_0 (z : Sg) : (hp z)[0]? = some (.inl (5, z.X.1, .inl z.X.2)) := rfl
theorem hg_1 (z : Sg) : (hp z)[1]? = some (.inl (5, 5, .inl lowF)) := rfl
theorem hg_2 (z : Sg) : (hp z)[2]? = some (.inl (5, 5, .inl highF)) := rfl
theorem hg_3 (z : Sg) : (hp z)[3]? = some (.inr (10, [.ref 4, .ref 6, .ref 17, .ref 18, .ref 22, .ref 24, .ref 28, .ref 32, .ref 35])) := rfl
theorem hg_4 (z : Sg) : (hp z)[4]? = some (.inr (4, [.ref 5])) := rfl
theorem hg_5 (z : Sg) : (hp z)[5]? = some (.inl (0, 5, .inl (z.A 5))) := rfl
theorem hg_6 (z : Sg) : (hp z)[6]? = some (.inr (9, [.ref 7, .ref 8, .ref 9, .ref 10, .ref 11, .ref 12, .ref 13, .ref 14, .ref 15, .ref 16, .int (z.F 6 10)])) := rfl
theorem hg_7 (z : Sg) : (hp z)[7]? = some (.inl (0, 60, .inl (z.A 7))) := rfl
theorem hg_8 (z : Sg) : (hp z)[8]? = some (.inl (0, 60, .inl (z.A 8))) := rfl
theorem hg_9 (z : Sg) : (hp z)[9]? = some (.inl (0, 60, .inl (z.A 9))) := rfl
theorem hg_10 (z : Sg) : (hp z)[10]? = some (.inl (0, 60, .inl (z.A 10))) := rfl
theorem hg_11 (z : Sg) : (hp z)[11]? = some (.inl (0, 60, .inl (z.A 11))) := rfl
theorem hg_12 (z : Sg) : (hp z)[12]? = some (.inl (0, 60, .inl (z.A 12))) := rfl
theorem hg_13 (z : Sg) : (hp z)[13]? = some (.inl (0, 60, .inl (z.A 13))) := rfl
theorem hg_14 (z : Sg) : (hp z)[14]? = some (.inl (0, 60, .inl (z.A 14))) := rfl
theorem hg_15 (z : Sg) : (hp z)[15]? = some (.inl (1, 60, .inl (z.A 15))) := rfl
theorem hg_16 (z : Sg) : (hp z)[16]? = some (.inl (0, 26, .inl (z.A 16))) := rfl
theorem hg_17 (z : Sg) : (hp z)[17]? = some (.inr (3, [.ref 6, .ref 4, .int (z.F 17 2), .int (z.F 17 3), .int (z.F 17 4), .int (z.F 17 5), .int (z.F 17 6), .int (z.F 17 7), .int (z.F 17 8), .int (z.F 17 9)])) := rfl
theorem hg_18 (z : Sg) : (hp z)[18]? = some (.inr (7, [.ref 19, .ref 20, .ref 21, .int (z.F 18 3), .int (z.F 18 4), .ref z.T, va_rf z.S])) := rfl
theorem hg_19 (z : Sg) : (hp z)[19]? = some (.inr (1, [.null, .int 0, .int 0])) := rfl
theorem hg_20 (z : Sg) : (hp z)[20]? = some (.inl (4, 100, .inr (.inr (.inr (.inr (z.P 20)))))) := rfl
theorem hg_21 (z : Sg) : (hp z)[21]? = some (.inl (4, 100, .inr (.inr (.inr (.inr (z.P 21)))))) := rfl
theorem hg_22 (z : Sg) : (hp z)[22]? = some (.inr (8, [.ref 23, .int (z.F 22 1)])) := rfl
theorem hg_23 (z : Sg) : (hp z)[23]? = some (.inl (0, 26, .inl (z.A 23))) := rfl
theorem hg_24 (z : Sg) : (hp z)[24]? = some (.inr (0, [.ref 25, .ref 26, .ref 27, .int (z.F 24 3)])) := rfl
theorem hg_25 (z : Sg) : (hp z)[25]? = some (.inl (0, 480, .inl (z.A 25))) := rfl
theorem hg_26 (z : Sg) : (hp z)[26]? = some (.inl (0, 40, .inl (z.A 26))) := rfl
theorem hg_27 (z : Sg) : (hp z)[27]? = some (.inl (0, 40, .inl (z.A 27))) := rfl
theorem hg_28 (z : Sg) : (hp z)[28]? = some (.inr (2, [.ref 24, .ref 6, .ref 18, .ref 29, .ref 30, .ref 31, .int (z.F 28 6)])) := rfl
theorem hg_29 (z : Sg) : (hp z)[29]? = some (.inl (0, 12, .inl (z.A 29))) := rfl
theorem hg_30 (z : Sg) : (hp z)[30]? = some (.inl (0, 40, .inl (z.A 30))) := rfl
theorem hg_31 (z : Sg) : (hp z)[31]? = some (.inl (0, 40, .inl (z.A 31))) := rfl
theorem hg_32 (z : Sg) : (hp z)[32]? = some (.inr (6, [.ref 6, .ref 4, .ref 33, .ref 34])) := rfl
theorem hg_33 (z : Sg) : (hp z)[33]? = some (.inl (0, 26, .inl (z.A 33))) := rfl
theorem hg_34 (z : Sg) : (hp z)[34]? = some (.inl (0, 26, .inl (z.A 34))) := rfl
theorem hg_35 (z : Sg) : (hp z)[35]? = some (.inr (5, [.ref 22, .ref 4, .ref 36, .ref 37, .ref 38])) := rfl
theorem hg_36 (z : Sg) : (hp z)[36]? = some (.inl (0, 27, .inl (z.A 36))) := rfl
theorem hg_37 (z : Sg) : (hp z)[37]? = some (.inl (0, 729, .inl (z.A 37))) := rfl
theorem hg_38 (z : Sg) : (hp z)[38]? = some (.inl (0, 60, .inl (z.A 38))) := rfl
theorem hg_39 (z : Sg) : (hp z)[39]? = some (.inr (11, [.int (z.F 39 0), .ref 40, .ref 41, .ref 42, .ref 43, .int (z.F 39 5), .ref 44, .ref 45, .ref 46, .ref 47, .int (z.F 39 10), .int (z.F 39 11), .int (z.F 39 12), .int (z.F 39 13), .int (z.F 39 14), .int (z.F 39 15), .int (z.F 39 16), .int (z.F 39 17), .ref 48, .ref 49, .ref 50, .ref 51, .ref 52, .ref 53, .int (z.F 39 24), .int (z.F 39 25), .int (z.F 39 26), .ref 54, .ref 55, .ref 56, .ref 57, .int (z.F 39 31), .int (z.F 39 32), .ref 58, .ref 59, .ref 60, .ref 61, .ref 62])) := rfl
theorem hg_40 (z : Sg) : (hp z)[40]? = some (.inl (0, 60, .inl (z.A 40))) := rfl
theorem hg_41 (z : Sg) : (hp z)[41]? = some (.inl (0, 60, .inl (z.A 41))) := rfl
theorem hg_42 (z : Sg) : (hp z)[42]? = some (.inl (0, 60, .inl (z.A 42))) := rfl
theorem hg_43 (z : Sg) : (hp z)[43]? = some (.inl (0, 5, .inl (z.A 43))) := rfl
theorem hg_44 (z : Sg) : (hp z)[44]? = some (.inl (1, 60, .inl (z.A 44))) := rfl
theorem hg_45 (z : Sg) : (hp z)[45]? = some (.inl (0, 3600, .inl (z.A 45))) := rfl
theorem hg_46 (z : Sg) : (hp z)[46]? = some (.inl (0, 60, .inl (z.A 46))) := rfl
theorem hg_47 (z : Sg) : (hp z)[47]? = some (.inl (0, 60, .inl (z.A 47))) := rfl
theorem hg_48 (z : Sg) : (hp z)[48]? = some (.inl (2, 200, .inl (z.A 48))) := rfl
theorem hg_49 (z : Sg) : (hp z)[49]? = some (.inl (2, 200, .inl (z.A 49))) := rfl
theorem hg_50 (z : Sg) : (hp z)[50]? = some (.inl (2, 20000, .inl (z.A 50))) := rfl
theorem hg_51 (z : Sg) : (hp z)[51]? = some (.inl (2, 20000, .inl (z.A 51))) := rfl
theorem hg_52 (z : Sg) : (hp z)[52]? = some (.inl (0, 100, .inl (z.A 52))) := rfl
theorem hg_53 (z : Sg) : (hp z)[53]? = some (.inl (0, 100, .inl (z.A 53))) := rfl
theorem hg_54 (z : Sg) : (hp z)[54]? = some (.inl (2, 26, .inl (z.A 54))) := rfl
theorem hg_55 (z : Sg) : (hp z)[55]? = some (.inl (2, 480, .inl (z.A 55))) := rfl
theorem hg_56 (z : Sg) : (hp z)[56]? = some (.inl (0, 40, .inl (z.A 56))) := rfl
theorem hg_57 (z : Sg) : (hp z)[57]? = some (.inl (0, 40, .inl (z.A 57))) := rfl
theorem hg_58 (z : Sg) : (hp z)[58]? = some (.inl (0, 40, .inl (z.A 58))) := rfl
theorem hg_59 (z : Sg) : (hp z)[59]? = some (.inl (0, 26, .inl (z.A 59))) := rfl
theorem hg_60 (z : Sg) : (hp z)[60]? = some (.inl (3, 20412, .inr (.inl (z.L 60)))) := rfl
theorem hg_61 (z : Sg) : (hp z)[61]? = some (.inl (3, 729, .inr (.inl (z.L 61)))) := rfl
theorem hg_62 (z : Sg) : (hp z)[62]? = some (.inl (2, 26, .inl (z.A 62))) := rfl
theorem hg_63 (z : Sg) : (hp z)[63]? = some (.inl (3, 1, .inr (.inl (z.L 63)))) := rfl
theorem hs_5 (z : Sg) (f : Nat → Int32) : (hp z).set 5 (.inl (0, 5, .inl f)) = hp (stA z 5 f) := rfl
theorem hs_6_10 (z : Sg) (v : Int32) : (hp z).set 6 (.inr (9, List.set [.ref 7, .ref 8, .ref 9, .ref 10, .ref 11, .ref 12, .ref 13, .ref 14, .ref 15, .ref 16, .int (z.F 6 10)] 10 (.int v))) = hp (stF z 6 10 v) := rfl
theorem hs_7 (z : Sg) (f : Nat → Int32) : (hp z).set 7 (.inl (0, 60, .inl f)) = hp (stA z 7 f) := rfl
theorem hs_8 (z : Sg) (f : Nat → Int32) : (hp z).set 8 (.inl (0, 60, .inl f)) = hp (stA z 8 f) := rfl
theorem hs_9 (z : Sg) (f : Nat → Int32) : (hp z).set 9 (.inl (0, 60, .inl f)) = hp (stA z 9 f) := rfl
theorem hs_10 (z : Sg) (f : Nat → Int32) : (hp z).set 10 (.inl (0, 60, .inl f)) = hp (stA z 10 f) := rfl
theorem hs_11 (z : Sg) (f : Nat → Int32) : (hp z).set 11 (.inl (0, 60, .inl f)) = hp (stA z 11 f) := rfl
theorem hs_12 (z : Sg) (f : Nat → Int32) : (hp z).set 12 (.inl (0, 60, .inl f)) = hp (stA z 12 f) := rfl
theorem hs_13 (z : Sg) (f : Nat → Int32) : (hp z).set 13 (.inl (0, 60, .inl f)) = hp (stA z 13 f) := rfl
theorem hs_14 (z : Sg) (f : Nat → Int32) : (hp z).set 14 (.inl (0, 60, .inl f)) = hp (stA z 14 f) := rfl
theorem hs_15 (z : Sg) (f : Nat → Int32) : (hp z).set 15 (.inl (1, 60, .inl f)) = hp (stA z 15 f) := rfl
theorem hs_16 (z : Sg) (f : Nat → Int32) : (hp z).set 16 (.inl (0, 26, .inl f)) = hp (stA z 16 f) := rfl
theorem hs_17_2 (z : Sg) (v : Int32) : (hp z).set 17 (.inr (3, List.set [.ref 6, .ref 4, .int (z.F 17 2), .int (z.F 17 3), .int (z.F 17 4), .int (z.F 17 5), .int (z.F 17 6), .int (z.F 17 7), .int (z.F 17 8), .int (z.F 17 9)] 2 (.int v))) = hp (stF z 17 2 v) := rfl
theorem hs_17_3 (z : Sg) (v : Int32) : (hp z).set 17 (.inr (3, List.set [.ref 6, .ref 4, .int (z.F 17 2), .int (z.F 17 3), .int (z.F 17 4), .int (z.F 17 5), .int (z.F 17 6), .int (z.F 17 7), .int (z.F 17 8), .int (z.F 17 9)] 3 (.int v))) = hp (stF z 17 3 v) := rfl
theorem hs_17_4 (z : Sg) (v : Int32) : (hp z).set 17 (.inr (3, List.set [.ref 6, .ref 4, .int (z.F 17 2), .int (z.F 17 3), .int (z.F 17 4), .int (z.F 17 5), .int (z.F 17 6), .int (z.F 17 7), .int (z.F 17 8), .int (z.F 17 9)] 4 (.int v))) = hp (stF z 17 4 v) := rfl
theorem hs_17_5 (z : Sg) (v : Int32) : (hp z).set 17 (.inr (3, List.set [.ref 6, .ref 4, .int (z.F 17 2), .int (z.F 17 3), .int (z.F 17 4), .int (z.F 17 5), .int (z.F 17 6), .int (z.F 17 7), .int (z.F 17 8), .int (z.F 17 9)] 5 (.int v))) = hp (stF z 17 5 v) := rfl
theorem hs_17_6 (z : Sg) (v : Int32) : (hp z).set 17 (.inr (3, List.set [.ref 6, .ref 4, .int (z.F 17 2), .int (z.F 17 3), .int (z.F 17 4), .int (z.F 17 5), .int (z.F 17 6), .int (z.F 17 7), .int (z.F 17 8), .int (z.F 17 9)] 6 (.int v))) = hp (stF z 17 6 v) := rfl
theorem hs_17_7 (z : Sg) (v : Int32) : (hp z).set 17 (.inr (3, List.set [.ref 6, .ref 4, .int (z.F 17 2), .int (z.F 17 3), .int (z.F 17 4), .int (z.F 17 5), .int (z.F 17 6), .int (z.F 17 7), .int (z.F 17 8), .int (z.F 17 9)] 7 (.int v))) = hp (stF z 17 7 v) := rfl
theorem hs_17_8 (z : Sg) (v : Int32) : (hp z).set 17 (.inr (3, List.set [.ref 6, .ref 4, .int (z.F 17 2), .int (z.F 17 3), .int (z.F 17 4), .int (z.F 17 5), .int (z.F 17 6), .int (z.F 17 7), .int (z.F 17 8), .int (z.F 17 9)] 8 (.int v))) = hp (stF z 17 8 v) := rfl
theorem hs_17_9 (z : Sg) (v : Int32) : (hp z).set 17 (.inr (3, List.set [.ref 6, .ref 4, .int (z.F 17 2), .int (z.F 17 3), .int (z.F 17 4), .int (z.F 17 5), .int (z.F 17 6), .int (z.F 17 7), .int (z.F 17 8), .int (z.F 17 9)] 9 (.int v))) = hp (stF z 17 9 v) := rfl
theorem hs_18_3 (z : Sg) (v : Int32) : (hp z).set 18 (.inr (7, List.set [.ref 19, .ref 20, .ref 21, .int (z.F 18 3), .int (z.F 18 4), .ref z.T, va_rf z.S] 3 (.int v))) = hp (stF z 18 3 v) := rfl
theorem hs_18_4 (z : Sg) (v : Int32) : (hp z).set 18 (.inr (7, List.set [.ref 19, .ref 20, .ref 21, .int (z.F 18 3), .int (z.F 18 4), .ref z.T, va_rf z.S] 4 (.int v))) = hp (stF z 18 4 v) := rfl
theorem hs_18_5 (z : Sg) (v : Nat) : (hp z).set 18 (.inr (7, List.set [.ref 19, .ref 20, .ref 21, .int (z.F 18 3), .int (z.F 18 4), .ref z.T, va_rf z.S] 5 (.ref v))) = hp (stT z v) := rfl
theorem hs_18_6 (z : Sg) (v : Option Nat) : (hp z).set 18 (.inr (7, List.set [.ref 19, .ref 20, .ref 21, .int (z.F 18 3), .int (z.F 18 4), .ref z.T, va_rf z.S] 6 (va_rf v))) = hp (stS z v) := rfl
theorem hs_20 (z : Sg) (f : Nat → Option Nat) : (hp z).set 20 (.inl (4, 100, .inr (.inr (.inr (.inr f))))) = hp (stP z 20 f) := rfl
theorem hs_21 (z : Sg) (f : Nat → Option Nat) : (hp z).set 21 (.inl (4, 100, .inr (.inr (.inr (.inr f))))) = hp (stP z 21 f) := rfl
theorem hs_22_1 (z : Sg) (v : Int32) : (hp z).set 22 (.inr (8, List.set [.ref 23, .int (z.F 22 1)] 1 (.int v))) = hp (stF z 22 1 v) := rfl
theorem hs_23 (z : Sg) (f : Nat → Int32) : (hp z).set 23 (.inl (0, 26, .inl f)) = hp (stA z 23 f) := rfl
theorem hs_24_3 (z : Sg) (v : Int32) : (hp z).set 24 (.inr (0, List.set [.ref 25, .ref 26, .ref 27, .int (z.F 24 3)] 3 (.int v))) = hp (stF z 24 3 v) := rfl
theorem hs_25 (z : Sg) (f : Nat → Int32) : (hp z).set 25 (.inl (0, 480, .inl f)) = hp (stA z 25 f) := rfl
theorem hs_26 (z : Sg) (f : Nat → Int32) : (hp z).set 26 (.inl (0, 40, .inl f)) = hp (stA z 26 f) := rfl
theorem hs_27 (z : Sg) (f : Nat → Int32) : (hp z).set 27 (.inl (0, 40, .inl f)) = hp (stA z 27 f) := rfl
theorem hs_28_6 (z : Sg) (v : Int32) : (hp z).set 28 (.inr (2, List.set [.ref 24, .ref 6, .ref 18, .ref 29, .ref 30, .ref 31, .int (z.F 28 6)] 6 (.int v))) = hp (stF z 28 6 v) := rfl
theorem hs_29 (z : Sg) (f : Nat → Int32) : (hp z).set 29 (.inl (0, 12, .inl f)) = hp (stA z 29 f) := rfl
theorem hs_30 (z : Sg) (f : Nat → Int32) : (hp z).set 30 (.inl (0, 40, .inl f)) = hp (stA z 30 f) := rfl
theorem hs_31 (z : Sg) (f : Nat → Int32) : (hp z).set 31 (.inl (0, 40, .inl f)) = hp (stA z 31 f) := rfl
theorem hs_33 (z : Sg) (f : Nat → Int32) : (hp z).set 33 (.inl (0, 26, .inl f)) = hp (stA z 33 f) := rfl
theorem hs_34 (z : Sg) (f : Nat → Int32) : (hp z).set 34 (.inl (0, 26, .inl f)) = hp (stA z 34 f) := rfl
theorem hs_36 (z : Sg) (f : Nat → Int32) : (hp z).set 36 (.inl (0, 27, .inl f)) = hp (stA z 36 f) := rfl
theorem hs_37 (z : Sg) (f : Nat → Int32) : (hp z).set 37 (.inl (0, 729, .inl f)) = hp (stA z 37 f) := rfl
theorem hs_38 (z : Sg) (f : Nat → Int32) : (hp z).set 38 (.inl (0, 60, .inl f)) = hp (stA z 38 f) := rfl
theorem hs_39_0 (z : Sg) (v : Int32) : (hp z).set 39 (.inr (11, List.set [.int (z.F 39 0), .ref 40, .ref 41, .ref 42, .ref 43, .int (z.F 39 5), .ref 44, .ref 45, .ref 46, .ref 47, .int (z.F 39 10), .int (z.F 39 11), .int (z.F 39 12), .int (z.F 39 13), .int (z.F 39 14), .int (z.F 39 15), .int (z.F 39 16), .int (z.F 39 17), .ref 48, .ref 49, .ref 50, .ref 51, .ref 52, .ref 53, .int (z.F 39 24), .int (z.F 39 25), .int (z.F 39 26), .ref 54, .ref 55, .ref 56, .ref 57, .int (z.F 39 31), .int (z.F 39 32), .ref 58, .ref 59, .ref 60, .ref 61, .ref 62] 0 (.int v))) = hp (stF z 39 0 v) := rfl
theorem hs_39_5 (z : Sg) (v : Int32) : (hp z).set 39 (.inr (11, List.set [.int (z.F 39 0), .ref 40, .ref 41, .ref 42, .ref 43, .int (z.F 39 5), .ref 44, .ref 45, .ref 46, .ref 47, .int (z.F 39 10), .int (z.F 39 11), .int (z.F 39 12), .int (z.F 39 13), .int (z.F 39 14), .int (z.F 39 15), .int (z.F 39 16), .int (z.F 39 17), .ref 48, .ref 49, .ref 50, .ref 51, .ref 52, .ref 53, .int (z.F 39 24), .int (z.F 39 25), .int (z.F 39 26), .ref 54, .ref 55, .ref 56, .ref 57, .int (z.F 39 31), .int (z.F 39 32), .ref 58, .ref 59, .ref 60, .ref 61, .ref 62] 5 (.int v))) = hp (stF z 39 5 v) := rfl
theorem hs_39_10 (z : Sg) (v : Int32) : (hp z).set 39 (.inr (11, List.set [.int (z.F 39 0), .ref 40, .ref 41, .ref 42, .ref 43, .int (z.F 39 5), .ref 44, .ref 45, .ref 46, .ref 47, .int (z.F 39 10), .int (z.F 39 11), .int (z.F 39 12), .int (z.F 39 13), .int (z.F 39 14), .int (z.F 39 15), .int (z.F 39 16), .int (z.F 39 17), .ref 48, .ref 49, .ref 50, .ref 51, .ref 52, .ref 53, .int (z.F 39 24), .int (z.F 39 25), .int (z.F 39 26), .ref 54, .ref 55, .ref 56, .ref 57, .int (z.F 39 31), .int (z.F 39 32), .ref 58, .ref 59, .ref 60, .ref 61, .ref 62] 10 (.int v))) = hp (stF z 39 10 v) := rfl
theorem hs_39_11 (z : Sg) (v : Int32) : (hp z).set 39 (.inr (11, List.set [.int (z.F 39 0), .ref 40, .ref 41, .ref 42, .ref 43, .int (z.F 39 5), .ref 44, .ref 45, .ref 46, .ref 47, .int (z.F 39 10), .int (z.F 39 11), .int (z.F 39 12), .int (z.F 39 13), .int (z.F 39 14), .int (z.F 39 15), .int (z.F 39 16), .int (z.F 39 17), .ref 48, .ref 49, .ref 50, .ref 51, .ref 52, .ref 53, .int (z.F 39 24), .int (z.F 39 25), .int (z.F 39 26), .ref 54, .ref 55, .ref 56, .ref 57, .int (z.F 39 31), .int (z.F 39 32), .ref 58, .ref 59, .ref 60, .ref 61, .ref 62] 11 (.int v))) = hp (stF z 39 11 v) := rfl
theorem hs_39_12 (z : Sg) (v : Int32) : (hp z).set 39 (.inr (11, List.set [.int (z.F 39 0), .ref 40, .ref 41, .ref 42, .ref 43, .int (z.F 39 5), .ref 44, .ref 45, .ref 46, .ref 47, .int (z.F 39 10), .int (z.F 39 11), .int (z.F 39 12), .int (z.F 39 13), .int (z.F 39 14), .int (z.F 39 15), .int (z.F 39 16), .int (z.F 39 17), .ref 48, .ref 49, .ref 50, .ref 51, .ref 52, .ref 53, .int (z.F 39 24), .int (z.F 39 25), .int (z.F 39 26), .ref 54, .ref 55, .ref 56, .ref 57, .int (z.F 39 31), .int (z.F 39 32), .ref 58, .ref 59, .ref 60, .ref 61, .ref 62] 12 (.int v))) = hp (stF z 39 12 v) := rfl
theorem hs_39_13 (z : Sg) (v : Int32) : (hp z).set 39 (.inr (11, List.set [.int (z.F 39 0), .ref 40, .ref 41, .ref 42, .ref 43, .int (z.F 39 5), .ref 44, .ref 45, .ref 46, .ref 47, .int (z.F 39 10), .int (z.F 39 11), .int (z.F 39 12), .int (z.F 39 13), .int (z.F 39 14), .int (z.F 39 15), .int (z.F 39 16), .int (z.F 39 17), .ref 48, .ref 49, .ref 50, .ref 51, .ref 52, .ref 53, .int (z.F 39 24), .int (z.F 39 25), .int (z.F 39 26), .ref 54, .ref 55, .ref 56, .ref 57, .int (z.F 39 31), .int (z.F 39 32), .ref 58, .ref 59, .ref 60, .ref 61, .ref 62] 13 (.int v))) = hp (stF z 39 13 v) := rfl
theorem hs_39_14 (z : Sg) (v : Int32) : (hp z).set 39 (.inr (11, List.set [.int (z.F 39 0), .ref 40, .ref 41, .ref 42, .ref 43, .int (z.F 39 5), .ref 44, .ref 45, .ref 46, .ref 47, .int (z.F 39 10), .int (z.F 39 11), .int (z.F 39 12), .int (z.F 39 13), .int (z.F 39 14), .int (z.F 39 15), .int (z.F 39 16), .int (z.F 39 17), .ref 48, .ref 49, .ref 50, .ref 51, .ref 52, .ref 53, .int (z.F 39 24), .int (z.F 39 25), .int (z.F 39 26), .ref 54, .ref 55, .ref 56, .ref 57, .int (z.F 39 31), .int (z.F 39 32), .ref 58, .ref 59, .ref 60, .ref 61, .ref 62] 14 (.int v))) = hp (stF z 39 14 v) := rfl
theorem hs_39_15 (z : Sg) (v : Int32) : (hp z).set 39 (.inr (11, List.set [.int (z.F 39 0), .ref 40, .ref 41, .ref 42, .ref 43, .int (z.F 39 5), .ref 44, .ref 45, .ref 46, .ref 47, .int (z.F 39 10), .int (z.F 39 11), .int (z.F 39 12), .int (z.F 39 13), .int (z.F 39 14), .int (z.F 39 15), .int (z.F 39 16), .int (z.F 39 17), .ref 48, .ref 49, .ref 50, .ref 51, .ref 52, .ref 53, .int (z.F 39 24), .int (z.F 39 25), .int (z.F 39 26), .ref 54, .ref 55, .ref 56, .ref 57, .int (z.F 39 31), .int (z.F 39 32), .ref 58, .ref 59, .ref 60, .ref 61, .ref 62] 15 (.int v))) = hp (stF z 39 15 v) := rfl
theorem hs_39_16 (z : Sg) (v : Int32) : (hp z).set 39 (.inr (11, List.set [.int (z.F 39 0), .ref 40, .ref 41, .ref 42, .ref 43, .int (z.F 39 5), .ref 44, .ref 45, .ref 46, .ref 47, .int (z.F 39 10), .int (z.F 39 11), .int (z.F 39 12), .int (z.F 39 13), .int (z.F 39 14), .int (z.F 39 15), .int (z.F 39 16), .int (z.F 39 17), .ref 48, .ref 49, .ref 50, .ref 51, .ref 52, .ref 53, .int (z.F 39 24), .int (z.F 39 25), .int (z.F 39 26), .ref 54, .ref 55, .ref 56, .ref 57, .int (z.F 39 31), .int (z.F 39 32), .ref 58, .ref 59, .ref 60, .ref 61, .ref 62] 16 (.int v))) = hp (stF z 39 16 v) := rfl
theorem hs_39_17 (z : Sg) (v : Int32) : (hp z).set 39 (.inr (11, List.set [.int (z.F 39 0), .ref 40, .ref 41, .ref 42, .ref 43, .int (z.F 39 5), .ref 44, .ref 45, .ref 46, .ref 47, .int (z.F 39 10), .int (z.F 39 11), .int (z.F 39 12), .int (z.F 39 13), .int (z.F 39 14), .int (z.F 39 15), .int (z.F 39 16), .int (z.F 39 17), .ref 48, .ref 49, .ref 50, .ref 51, .ref 52, .ref 53, .int (z.F 39 24), .int (z.F 39 25), .int (z.F 39 26), .ref 54, .ref 55, .ref 56, .ref 57, .int (z.F 39 31), .int (z.F 39 32), .ref 58, .ref 59, .ref 60, .ref 61, .ref 62] 17 (.int v))) = hp (stF z 39 17 v) := rfl
theorem hs_39_24 (z : Sg) (v : Int32) : (hp z).set 39 (.inr (11, List.set [.int (z.F 39 0), .ref 40, .ref 41, .ref 42, .ref 43, .int (z.F 39 5), .ref 44, .ref 45, .ref 46, .ref 47, .int (z.F 39 10), .int (z.F 39 11), .int (z.F 39 12), .int (z.F 39 13), .int (z.F 39 14), .int (z.F 39 15), .int (z.F 39 16), .int (z.F 39 17), .ref 48, .ref 49, .ref 50, .ref 51, .ref 52, .ref 53, .int (z.F 39 24), .int (z.F 39 25), .int (z.F 39 26), .ref 54, .ref 55, .ref 56, .ref 57, .int (z.F 39 31), .int (z.F 39 32), .ref 58, .ref 59, .ref 60, .ref 61, .ref 62] 24 (.int v))) = hp (stF z 39 24 v) := rfl
theorem hs_39_25 (z : Sg) (v : Int32) : (hp z).set 39 (.inr (11, List.set [.int (z.F 39 0), .ref 40, .ref 41, .ref 42, .ref 43, .int (z.F 39 5), .ref 44, .ref 45, .ref 46, .ref 47, .int (z.F 39 10), .int (z.F 39 11), .int (z.F 39 12), .int (z.F 39 13), .int (z.F 39 14), .int (z.F 39 15), .int (z.F 39 16), .int (z.F 39 17), .ref 48, .ref 49, .ref 50, .ref 51, .ref 52, .ref 53, .int (z.F 39 24), .int (z.F 39 25), .int (z.F 39 26), .ref 54, .ref 55, .ref 56, .ref 57, .int (z.F 39 31), .int (z.F 39 32), .ref 58, .ref 59, .ref 60, .ref 61, .ref 62] 25 (.int v))) = hp (stF z 39 25 v) := rfl
theorem hs_39_26 (z : Sg) (v : Int32) : (hp z).set 39 (.inr (11, List.set [.int (z.F 39 0), .ref 40, .ref 41, .ref 42, .ref 43, .int (z.F 39 5), .ref 44, .ref 45, .ref 46, .ref 47, .int (z.F 39 10), .int (z.F 39 11), .int (z.F 39 12), .int (z.F 39 13), .int (z.F 39 14), .int (z.F 39 15), .int (z.F 39 16), .int (z.F 39 17), .ref 48, .ref 49, .ref 50, .ref 51, .ref 52, .ref 53, .int (z.F 39 24), .int (z.F 39 25), .int (z.F 39 26), .ref 54, .ref 55, .ref 56, .ref 57, .int (z.F 39 31), .int (z.F 39 32), .ref 58, .ref 59, .ref 60, .ref 61, .ref 62] 26 (.int v))) = hp (stF z 39 26 v) := rfl
theorem hs_39_31 (z : Sg) (v : Int32) : (hp z).set 39 (.inr (11, List.set [.int (z.F 39 0), .ref 40, .ref 41, .ref 42, .ref 43, .int (z.F 39 5), .ref 44, .ref 45, .ref 46, .ref 47, .int (z.F 39 10), .int (z.F 39 11), .int (z.F 39 12), .int (z.F 39 13), .int (z.F 39 14), .int (z.F 39 15), .int (z.F 39 16), .int (z.F 39 17), .ref 48, .ref 49, .ref 50, .ref 51, .ref 52, .ref 53, .int (z.F 39 24), .int (z.F 39 25), .int (z.F 39 26), .ref 54, .ref 55, .ref 56, .ref 57, .int (z.F 39 31), .int (z.F 39 32), .ref 58, .ref 59, .ref 60, .ref 61, .ref 62] 31 (.int v))) = hp (stF z 39 31 v) := rfl
theorem hs_39_32 (z : Sg) (v : Int32) : (hp z).set 39 (.inr (11, List.set [.int (z.F 39 0), .ref 40, .ref 41, .ref 42, .ref 43, .int (z.F 39 5), .ref 44, .ref 45, .ref 46, .ref 47, .int (z.F 39 10), .int (z.F 39 11), .int (z.F 39 12), .int (z.F 39 13), .int (z.F 39 14), .int (z.F 39 15), .int (z.F 39 16), .int (z.F 39 17), .ref 48, .ref 49, .ref 50, .ref 51, .ref 52, .ref 53, .int (z.F 39 24), .int (z.F 39 25), .int (z.F 39 26), .ref 54, .ref 55, .ref 56, .ref 57, .int (z.F 39 31), .int (z.F 39 32), .ref 58, .ref 59, .ref 60, .ref 61, .ref 62] 32 (.int v))) = hp (stF z 39 32 v) := rfl
theorem hs_40 (z : Sg) (f : Nat → Int32) : (hp z).set 40 (.inl (0, 60, .inl f)) = hp (stA z 40 f) := rfl
theorem hs_41 (z : Sg) (f : Nat → Int32) : (hp z).set 41 (.inl (0, 60, .inl f)) = hp (stA z 41 f) := rfl
theorem hs_42 (z : Sg) (f : Nat → Int32) : (hp z).set 42 (.inl (0, 60, .inl f)) = hp (stA z 42 f) := rfl
theorem hs_43 (z : Sg) (f : Nat → Int32) : (hp z).set 43 (.inl (0, 5, .inl f)) = hp (stA z 43 f) := rfl
theorem hs_44 (z : Sg) (f : Nat → Int32) : (hp z).set 44 (.inl (1, 60, .inl f)) = hp (stA z 44 f) := rfl
theorem hs_45 (z : Sg) (f : Nat → Int32) : (hp z).set 45 (.inl (0, 3600, .inl f)) = hp (stA z 45 f) := rfl
theorem hs_46 (z : Sg) (f : Nat → Int32) : (hp z).set 46 (.inl (0, 60, .inl f)) = hp (stA z 46 f) := rfl
theorem hs_47 (z : Sg) (f : Nat → Int32) : (hp z).set 47 (.inl (0, 60, .inl f)) = hp (stA z 47 f) := rfl
theorem hs_48 (z : Sg) (f : Nat → Int32) : (hp z).set 48 (.inl (2, 200, .inl f)) = hp (stA z 48 f) := rfl
theorem hs_49 (z : Sg) (f : Nat → Int32) : (hp z).set 49 (.inl (2, 200, .inl f)) = hp (stA z 49 f) := rfl
theorem hs_50 (z : Sg) (f : Nat → Int32) : (hp z).set 50 (.inl (2, 20000, .inl f)) = hp (stA z 50 f) := rfl
theorem hs_51 (z : Sg) (f : Nat → Int32) : (hp z).set 51 (.inl (2, 20000, .inl f)) = hp (stA z 51 f) := rfl
theorem hs_52 (z : Sg) (f : Nat → Int32) : (hp z).set 52 (.inl (0, 100, .inl f)) = hp (stA z 52 f) := rfl
theorem hs_53 (z : Sg) (f : Nat → Int32) : (hp z).set 53 (.inl (0, 100, .inl f)) = hp (stA z 53 f) := rfl
theorem hs_54 (z : Sg) (f : Nat → Int32) : (hp z).set 54 (.inl (2, 26, .inl f)) = hp (stA z 54 f) := rfl
theorem hs_55 (z : Sg) (f : Nat → Int32) : (hp z).set 55 (.inl (2, 480, .inl f)) = hp (stA z 55 f) := rfl
theorem hs_56 (z : Sg) (f : Nat → Int32) : (hp z).set 56 (.inl (0, 40, .inl f)) = hp (stA z 56 f) := rfl
theorem hs_57 (z : Sg) (f : Nat → Int32) : (hp z).set 57 (.inl (0, 40, .inl f)) = hp (stA z 57 f) := rfl
theorem hs_58 (z : Sg) (f : Nat → Int32) : (hp z).set 58 (.inl (0, 40, .inl f)) = hp (stA z 58 f) := rfl
theorem hs_59 (z : Sg) (f : Nat → Int32) : (hp z).set 59 (.inl (0, 26, .inl f)) = hp (stA z 59 f) := rfl
theorem hs_60 (z : Sg) (f : Nat → Int64) : (hp z).set 60 (.inl (3, 20412, .inr (.inl f))) = hp (stL z 60 f) := rfl
theorem hs_61 (z : Sg) (f : Nat → Int64) : (hp z).set 61 (.inl (3, 729, .inr (.inl f))) = hp (stL z 61 f) := rfl
theorem hs_62 (z : Sg) (f : Nat → Int32) : (hp z).set 62 (.inl (2, 26, .inl f)) = hp (stA z 62 f) := rfl
theorem hs_63 (z : Sg) (f : Nat → Int64) : (hp z).set 63 (.inl (3, 1, .inr (.inl f))) = hp (stL z 63 f) := rfl
end
section
theorem dX0_init_0 : decode cX0_init 0 = .ok (.aload_n 0, 1) := by decide +kernel
theorem dX0_init_1 : decode cX0_init 1 = .ok (.invokespecial 3, 3) := by decide +kernel
theorem dX0_init_4 : decode cX0_init 4 = .ok (.aload_n 0, 1) := by decide +kernel
theorem dX0_init_5 : decode cX0_init 5 = .ok (.sipush 480, 3) := by decide +kernel
theorem dX0_init_8 : decode cX0_init 8 = .ok (.newarray .int, 2) := by decide +kernel
theorem dX0_init_10 : decode cX0_init 10 = .ok (.putfield 11, 3) := by decide +kernel
theorem dX0_init_13 : decode cX0_init 13 = .ok (.aload_n 0, 1) := by decide +kernel
theorem dX0_init_14 : decode cX0_init 14 = .ok (.bipush 40, 2) := by decide +kernel
theorem dX0_init_16 : decode cX0_init 16 = .ok (.newarray .int, 2) := by decide +kernel
theorem dX0_init_18 : decode cX0_init 18 = .ok (.putfield 15, 3) := by decide +kernel
theorem dX0_init_21 : decode cX0_init 21 = .ok (.aload_n 0, 1) := by decide +kernel
theorem dX0_init_22 : decode cX0_init 22 = .ok (.bipush 40, 2) := by decide +kernel
theorem dX0_init_24 : decode cX0_init 24 = .ok (.newarray .int, 2) := by decide +kernel
theorem dX0_init_26 : decode cX0_init 26 = .ok (.putfield 18, 3) := by decide +kernel
theorem dX0_init_29 : decode cX0_init 29 = .ok (.return_, 1) := by decide +kernel
theorem dX0_take_0 : decode cX0_take 0 = .ok (.iload_n 2, 1) := by decide +kernel
theorem dX0_take_1 : decode cX0_take 1 = .ok (.iconst 0, 1) := by decide +kernel
theorem dX0_take_2 : decode cX0_take 2 = .ok (.sipush 10000, 3) := by decide +kernel
theorem dX0_take_5 : decode cX0_take 5 = .ok (.invokestatic 21, 3) := by decide +kernel
theorem dX0_take_8 : decode cX0_take 8 = .ok (.ifCond .eq 10, 3) := by decide +kernel
theorem dX0_take_11 : decode cX0_take 11 = .ok (.aload_n 1, 1) := by decide +kernel
theorem dX0_take_12 : decode cX0_take 12 = .ok (.invokevirtual 25, 3) := by decide +kernel
theorem dX0_take_15 : decode cX0_take 15 = .ok (.ifCond .ne 5, 3) := by decide +kernel
theorem dX0_take_18 : decode cX0_take 18 = .ok (.iconst (-1), 1) := by decide +kernel
theorem dX0_take_19 : decode cX0_take 19 = .ok (.ireturn, 1) := by decide +kernel
theorem dX0_take_20 : decode cX0_take 20 = .ok (.aload_n 0, 1) := by decide +kernel
theorem dX0_take_21 : decode cX0_take 21 = .ok (.aload_n 1, 1) := by decide +kernel
theorem dX0_take_22 : decode cX0_take 22 = .ok (.getfield 31, 3) := by decide +kernel
theorem dX0_take_25 : decode cX0_take 25 = .ok (.aload_n 1, 1) := by decide +kernel
theorem dX0_take_26 : decode cX0_take 26 = .ok (.invokevirtual 32, 3) := by decide +kernel
theorem dX0_take_29 : decode cX0_take 29 = .ok (.invokevirtual 36, 3) := by decide +kernel
theorem dX0_take_32 : decode cX0_take 32 = .ok (.istore_n 3, 1) := by decide +kernel
theorem dX0_take_33 : decode cX0_take 33 = .ok (.iload_n 3, 1) := by decide +kernel
theorem dX0_take_34 : decode cX0_take 34 = .ok (.iconst (-1), 1) := by decide +kernel
theorem dX0_take_35 : decode cX0_take 35 = .ok (.if_icmp .ne 9, 3) := by decide +kernel
theorem dX0_take_38 : decode cX0_take 38 = .ok (.aload_n 0, 1) := by decide +kernel
theorem dX0_take_39 : decode cX0_take 39 = .ok (.aload_n 1, 1) := by decide +kernel
theorem dX0_take_40 : decode cX0_take 40 = .ok (.invokevirtual 40, 3) := by decide +kernel
theorem dX0_take_43 : decode cX0_take 43 = .ok (.istore_n 3, 1) := by decide +kernel
theorem dX0_take_44 : decode cX0_take 44 = .ok (.aload_n 0, 1) := by decide +kernel
theorem dX0_take_45 : decode cX0_take 45 = .ok (.iload_n 3, 1) := by decide +kernel
theorem dX0_take_46 : decode cX0_take 46 = .ok (.invokevirtual 44, 3) := by decide +kernel
theorem dX0_take_49 : decode cX0_take 49 = .ok (.ifCond .eq 10, 3) := by decide +kernel
theorem dX0_take_52 : decode cX0_take 52 = .ok (.aload_n 0, 1) := by decide +kernel
theorem dX0_take_53 : decode cX0_take 53 = .ok (.getfield 18, 3) := by decide +kernel
theorem dX0_take_56 : decode cX0_take 56 = .ok (.iload_n 3, 1) := by decide +kernel
theorem dX0_take_57 : decode cX0_take 57 = .ok (.iload_n 2, 1) := by decide +kernel
theorem dX0_take_58 : decode cX0_take 58 = .ok (.iastore, 1) := by decide +kernel
theorem dX0_take_59 : decode cX0_take 59 = .ok (.iload_n 3, 1) := by decide +kernel
theorem dX0_take_60 : decode cX0_take 60 = .ok (.ireturn, 1) := by decide +kernel
theorem dX0_add_0 : decode cX0_add 0 = .ok (.aload_n 0, 1) := by decide +kernel
theorem dX0_add_1 : decode cX0_add 1 = .ok (.getfield 48, 3) := by decide +kernel
theorem dX0_add_4 : decode cX0_add 4 = .ok (.bipush 40, 2) := by decide +kernel
theorem dX0_add_6 : decode cX0_add 6 = .ok (.if_icmp .lt 5, 3) := by decide +kernel
theorem dX0_add_9 : decode cX0_add 9 = .ok (.iconst (-1), 1) := by decide +kernel
theorem dX0_add_10 : decode cX0_add 10 = .ok (.ireturn, 1) := by decide +kernel
theorem dX0_add_11 : decode cX0_add 11 = .ok (.aload_n 1, 1) := by decide +kernel
theorem dX0_add_12 : decode cX0_add 12 = .ok (.invokevirtual 32, 3) := by decide +kernel
theorem dX0_add_15 : decode cX0_add 15 = .ok (.bipush 12, 2) := by decide +kernel
theorem dX0_add_17 : decode cX0_add 17 = .ok (.invokestatic 51, 3) := by decide +kernel
theorem dX0_add_20 : decode cX0_add 20 = .ok (.istore_n 2, 1) := by decide +kernel
theorem dX0_add_21 : decode cX0_add 21 = .ok (.iconst 0, 1) := by decide +kernel
theorem dX0_add_22 : decode cX0_add 22 = .ok (.istore_n 3, 1) := by decide +kernel
theorem dX0_add_23 : decode cX0_add 23 = .ok (.iload_n 3, 1) := by decide +kernel
theorem dX0_add_24 : decode cX0_add 24 = .ok (.iload_n 2, 1) := by decide +kernel
theorem dX0_add_25 : decode cX0_add 25 = .ok (.if_icmp .ge 28, 3) := by decide +kernel
theorem dX0_add_28 : decode cX0_add 28 = .ok (.aload_n 0, 1) := by decide +kernel
theorem dX0_add_29 : decode cX0_add 29 = .ok (.getfield 11, 3) := by decide +kernel
theorem dX0_add_32 : decode cX0_add 32 = .ok (.aload_n 0, 1) := by decide +kernel
theorem dX0_add_33 : decode cX0_add 33 = .ok (.getfield 48, 3) := by decide +kernel
theorem dX0_add_36 : decode cX0_add 36 = .ok (.bipush 12, 2) := by decide +kernel
theorem dX0_add_38 : decode cX0_add 38 = .ok (.imul, 1) := by decide +kernel
theorem dX0_add_39 : decode cX0_add 39 = .ok (.iload_n 3, 1) := by decide +kernel
theorem dX0_add_40 : decode cX0_add 40 = .ok (.iadd, 1) := by decide +kernel
theorem dX0_add_41 : decode cX0_add 41 = .ok (.aload_n 1, 1) := by decide +kernel
theorem dX0_add_42 : decode cX0_add 42 = .ok (.iload_n 3, 1) := by decide +kernel
theorem dX0_add_43 : decode cX0_add 43 = .ok (.invokevirtual 57, 3) := by decide +kernel
theorem dX0_add_46 : decode cX0_add 46 = .ok (.iastore, 1) := by decide +kernel
theorem dX0_add_47 : decode cX0_add 47 = .ok (.iinc 3 1, 3) := by decide +kernel
theorem dX0_add_50 : decode cX0_add 50 = .ok (.goto (-27), 3) := by decide +kernel
theorem dX0_add_53 : decode cX0_add 53 = .ok (.aload_n 0, 1) := by decide +kernel
theorem dX0_add_54 : decode cX0_add 54 = .ok (.getfield 15, 3) := by decide +kernel
theorem dX0_add_57 : decode cX0_add 57 = .ok (.aload_n 0, 1) := by decide +kernel
theorem dX0_add_58 : decode cX0_add 58 = .ok (.getfield 48, 3) := by decide +kernel
theorem dX0_add_61 : decode cX0_add 61 = .ok (.iload_n 2, 1) := by decide +kernel
theorem dX0_add_62 : decode cX0_add 62 = .ok (.iastore, 1) := by decide +kernel
theorem dX0_add_63 : decode cX0_add 63 = .ok (.aload_n 0, 1) := by decide +kernel
theorem dX0_add_64 : decode cX0_add 64 = .ok (.dup, 1) := by decide +kernel
theorem dX0_add_65 : decode cX0_add 65 = .ok (.getfield 48, 3) := by decide +kernel
theorem dX0_add_68 : decode cX0_add 68 = .ok (.iconst 1, 1) := by decide +kernel
theorem dX0_add_69 : decode cX0_add 69 = .ok (.iadd, 1) := by decide +kernel
theorem dX0_add_70 : decode cX0_add 70 = .ok (.putfield 48, 3) := by decide +kernel
theorem dX0_add_73 : decode cX0_add 73 = .ok (.aload_n 0, 1) := by decide +kernel
theorem dX0_add_74 : decode cX0_add 74 = .ok (.getfield 48, 3) := by decide +kernel
theorem dX0_add_77 : decode cX0_add 77 = .ok (.iconst 1, 1) := by decide +kernel
theorem dX0_add_78 : decode cX0_add 78 = .ok (.isub, 1) := by decide +kernel
theorem dX0_add_79 : decode cX0_add 79 = .ok (.ireturn, 1) := by decide +kernel
theorem dX0_find_0 : decode cX0_find 0 = .ok (.iconst 0, 1) := by decide +kernel
theorem dX0_find_1 : decode cX0_find 1 = .ok (.istore_n 3, 1) := by decide +kernel
theorem dX0_find_2 : decode cX0_find 2 = .ok (.iload_n 3, 1) := by decide +kernel
theorem dX0_find_3 : decode cX0_find 3 = .ok (.aload_n 0, 1) := by decide +kernel
theorem dX0_find_4 : decode cX0_find 4 = .ok (.getfield 48, 3) := by decide +kernel
theorem dX0_find_7 : decode cX0_find 7 = .ok (.if_icmp .ge 31, 3) := by decide +kernel
theorem dX0_find_10 : decode cX0_find 10 = .ok (.aload_n 0, 1) := by decide +kernel
theorem dX0_find_11 : decode cX0_find 11 = .ok (.getfield 15, 3) := by decide +kernel
theorem dX0_find_14 : decode cX0_find 14 = .ok (.iload_n 3, 1) := by decide +kernel
theorem dX0_find_15 : decode cX0_find 15 = .ok (.iaload, 1) := by decide +kernel
theorem dX0_find_16 : decode cX0_find 16 = .ok (.iload_n 2, 1) := by decide +kernel
theorem dX0_find_17 : decode cX0_find 17 = .ok (.if_icmp .ne 15, 3) := by decide +kernel
theorem dX0_find_20 : decode cX0_find 20 = .ok (.aload_n 0, 1) := by decide +kernel
theorem dX0_find_21 : decode cX0_find 21 = .ok (.iload_n 3, 1) := by decide +kernel
theorem dX0_find_22 : decode cX0_find 22 = .ok (.aload_n 1, 1) := by decide +kernel
theorem dX0_find_23 : decode cX0_find 23 = .ok (.iload_n 2, 1) := by decide +kernel
theorem dX0_find_24 : decode cX0_find 24 = .ok (.invokevirtual 61, 3) := by decide +kernel
theorem dX0_find_27 : decode cX0_find 27 = .ok (.ifCond .eq 5, 3) := by decide +kernel
theorem dX0_find_30 : decode cX0_find 30 = .ok (.iload_n 3, 1) := by decide +kernel
theorem dX0_find_31 : decode cX0_find 31 = .ok (.ireturn, 1) := by decide +kernel
theorem dX0_find_32 : decode cX0_find 32 = .ok (.iinc 3 1, 3) := by decide +kernel
theorem dX0_find_35 : decode cX0_find 35 = .ok (.goto (-33), 3) := by decide +kernel
theorem dX0_find_38 : decode cX0_find 38 = .ok (.iconst (-1), 1) := by decide +kernel
theorem dX0_find_39 : decode cX0_find 39 = .ok (.ireturn, 1) := by decide +kernel
theorem dX0_beginsWith_0 : decode cX0_beginsWith 0 = .ok (.iload_n 3, 1) := by decide +kernel
theorem dX0_beginsWith_1 : decode cX0_beginsWith 1 = .ok (.aload_n 0, 1) := by decide +kernel
theorem dX0_beginsWith_2 : decode cX0_beginsWith 2 = .ok (.iload_n 1, 1) := by decide +kernel
theorem dX0_beginsWith_3 : decode cX0_beginsWith 3 = .ok (.invokevirtual 65, 3) := by decide +kernel
theorem dX0_beginsWith_6 : decode cX0_beginsWith 6 = .ok (.if_icmp .gt 9, 3) := by decide +kernel
theorem dX0_beginsWith_9 : decode cX0_beginsWith 9 = .ok (.iload_n 3, 1) := by decide +kernel
theorem dX0_beginsWith_10 : decode cX0_beginsWith 10 = .ok (.aload_n 2, 1) := by decide +kernel
theorem dX0_beginsWith_11 : decode cX0_beginsWith 11 = .ok (.arraylength, 1) := by decide +kernel
theorem dX0_beginsWith_12 : decode cX0_beginsWith 12 = .ok (.if_icmp .le 5, 3) := by decide +kernel
theorem dX0_beginsWith_15 : decode cX0_beginsWith 15 = .ok (.iconst 0, 1) := by decide +kernel
theorem dX0_beginsWith_16 : decode cX0_beginsWith 16 = .ok (.ireturn, 1) := by decide +kernel
theorem dX0_beginsWith_17 : decode cX0_beginsWith 17 = .ok (.iconst 0, 1) := by decide +kernel
theorem dX0_beginsWith_18 : decode cX0_beginsWith 18 = .ok (.istore 4, 2) := by decide +kernel
theorem dX0_beginsWith_20 : decode cX0_beginsWith 20 = .ok (.iload 4, 2) := by decide +kernel
theorem dX0_beginsWith_22 : decode cX0_beginsWith 22 = .ok (.iload_n 3, 1) := by decide +kernel
theorem dX0_beginsWith_23 : decode cX0_beginsWith 23 = .ok (.if_icmp .ge 25, 3) := by decide +kernel
theorem dX0_beginsWith_26 : decode cX0_beginsWith 26 = .ok (.aload_n 0, 1) := by decide +kernel
theorem dX0_beginsWith_27 : decode cX0_beginsWith 27 = .ok (.iload_n 1, 1) := by decide +kernel
theorem dX0_beginsWith_28 : decode cX0_beginsWith 28 = .ok (.iload 4, 2) := by decide +kernel
theorem dX0_beginsWith_30 : decode cX0_beginsWith 30 = .ok (.invokevirtual 68, 3) := by decide +kernel
theorem dX0_beginsWith_33 : decode cX0_beginsWith 33 = .ok (.aload_n 2, 1) := by decide +kernel
theorem dX0_beginsWith_34 : decode cX0_beginsWith 34 = .ok (.iload 4, 2) := by decide +kernel
theorem dX0_beginsWith_36 : decode cX0_beginsWith 36 = .ok (.iaload, 1) := by decide +kernel
theorem dX0_beginsWith_37 : decode cX0_beginsWith 37 = .ok (.if_icmp .eq 5, 3) := by decide +kernel
theorem dX0_beginsWith_40 : decode cX0_beginsWith 40 = .ok (.iconst 0, 1) := by decide +kernel
theorem dX0_beginsWith_41 : decode cX0_beginsWith 41 = .ok (.ireturn, 1) := by decide +kernel
theorem dX0_beginsWith_42 : decode cX0_beginsWith 42 = .ok (.iinc 4 1, 3) := by decide +kernel
theorem dX0_beginsWith_45 : decode cX0_beginsWith 45 = .ok (.goto (-25), 3) := by decide +kernel
theorem dX0_beginsWith_48 : decode cX0_beginsWith 48 = .ok (.iconst 1, 1) := by decide +kernel
theorem dX0_beginsWith_49 : decode cX0_beginsWith 49 = .ok (.ireturn, 1) := by decide +kernel
theorem dX0_has_0 : decode cX0_has 0 = .ok (.iload_n 1, 1) := by decide +kernel
theorem dX0_has_1 : decode cX0_has 1 = .ok (.ifCond .lt 15, 3) := by decide +kernel
theorem dX0_has_4 : decode cX0_has 4 = .ok (.iload_n 1, 1) := by decide +kernel
theorem dX0_has_5 : decode cX0_has 5 = .ok (.aload_n 0, 1) := by decide +kernel
theorem dX0_has_6 : decode cX0_has 6 = .ok (.getfield 48, 3) := by decide +kernel
theorem dX0_has_9 : decode cX0_has 9 = .ok (.if_icmp .ge 7, 3) := by decide +kernel
theorem dX0_has_12 : decode cX0_has 12 = .ok (.iconst 1, 1) := by decide +kernel
theorem dX0_has_13 : decode cX0_has 13 = .ok (.goto 4, 3) := by decide +kernel
theorem dX0_has_16 : decode cX0_has 16 = .ok (.iconst 0, 1) := by decide +kernel
theorem dX0_has_17 : decode cX0_has 17 = .ok (.ireturn, 1) := by decide +kernel
theorem dX0_size_0 : decode cX0_size 0 = .ok (.aload_n 0, 1) := by decide +kernel
theorem dX0_size_1 : decode cX0_size 1 = .ok (.getfield 48, 3) := by decide +kernel
theorem dX0_size_4 : decode cX0_size 4 = .ok (.ireturn, 1) := by decide +kernel
theorem dX0_sizeOf_0 : decode cX0_sizeOf 0 = .ok (.aload_n 0, 1) := by decide +kernel
theorem dX0_sizeOf_1 : decode cX0_sizeOf 1 = .ok (.iload_n 1, 1) := by decide +kernel
theorem dX0_sizeOf_2 : decode cX0_sizeOf 2 = .ok (.invokevirtual 44, 3) := by decide +kernel
theorem dX0_sizeOf_5 : decode cX0_sizeOf 5 = .ok (.ifCond .eq 12, 3) := by decide +kernel
theorem dX0_sizeOf_8 : decode cX0_sizeOf 8 = .ok (.aload_n 0, 1) := by decide +kernel
theorem dX0_sizeOf_9 : decode cX0_sizeOf 9 = .ok (.getfield 15, 3) := by decide +kernel
theorem dX0_sizeOf_12 : decode cX0_sizeOf 12 = .ok (.iload_n 1, 1) := by decide +kernel
theorem dX0_sizeOf_13 : decode cX0_sizeOf 13 = .ok (.iaload, 1) := by decide +kernel
theorem dX0_sizeOf_14 : decode cX0_sizeOf 14 = .ok (.goto 4, 3) := by decide +kernel
theorem dX0_sizeOf_17 : decode cX0_sizeOf 17 = .ok (.iconst 0, 1) := by decide +kernel
theorem dX0_sizeOf_18 : decode cX0_sizeOf 18 = .ok (.ireturn, 1) := by decide +kernel
theorem dX0_timesOf_0 : decode cX0_timesOf 0 = .ok (.aload_n 0, 1) := by decide +kernel
theorem dX0_timesOf_1 : decode cX0_timesOf 1 = .ok (.iload_n 1, 1) := by decide +kernel
theorem dX0_timesOf_2 : decode cX0_timesOf 2 = .ok (.invokevirtual 44, 3) := by decide +kernel
theorem dX0_timesOf_5 : decode cX0_timesOf 5 = .ok (.ifCond .eq 12, 3) := by decide +kernel
theorem dX0_timesOf_8 : decode cX0_timesOf 8 = .ok (.aload_n 0, 1) := by decide +kernel
theorem dX0_timesOf_9 : decode cX0_timesOf 9 = .ok (.getfield 18, 3) := by decide +kernel
theorem dX0_timesOf_12 : decode cX0_timesOf 12 = .ok (.iload_n 1, 1) := by decide +kernel
theorem dX0_timesOf_13 : decode cX0_timesOf 13 = .ok (.iaload, 1) := by decide +kernel
theorem dX0_timesOf_14 : decode cX0_timesOf 14 = .ok (.goto 4, 3) := by decide +kernel
theorem dX0_timesOf_17 : decode cX0_timesOf 17 = .ok (.iconst 0, 1) := by decide +kernel
theorem dX0_timesOf_18 : decode cX0_timesOf 18 = .ok (.ireturn, 1) := by decide +kernel
theorem dX0_signOf_0 : decode cX0_signOf 0 = .ok (.iload_n 2, 1) := by decide +kernel
theorem dX0_signOf_1 : decode cX0_signOf 1 = .ok (.ifCond .lt 26, 3) := by decide +kernel
theorem dX0_signOf_4 : decode cX0_signOf 4 = .ok (.iload_n 2, 1) := by decide +kernel
theorem dX0_signOf_5 : decode cX0_signOf 5 = .ok (.aload_n 0, 1) := by decide +kernel
theorem dX0_signOf_6 : decode cX0_signOf 6 = .ok (.iload_n 1, 1) := by decide +kernel
theorem dX0_signOf_7 : decode cX0_signOf 7 = .ok (.invokevirtual 65, 3) := by decide +kernel
theorem dX0_signOf_10 : decode cX0_signOf 10 = .ok (.if_icmp .ge 17, 3) := by decide +kernel
theorem dX0_signOf_13 : decode cX0_signOf 13 = .ok (.aload_n 0, 1) := by decide +kernel
theorem dX0_signOf_14 : decode cX0_signOf 14 = .ok (.getfield 11, 3) := by decide +kernel
theorem dX0_signOf_17 : decode cX0_signOf 17 = .ok (.iload_n 1, 1) := by decide +kernel
theorem dX0_signOf_18 : decode cX0_signOf 18 = .ok (.bipush 12, 2) := by decide +kernel
theorem dX0_signOf_20 : decode cX0_signOf 20 = .ok (.imul, 1) := by decide +kernel
theorem dX0_signOf_21 : decode cX0_signOf 21 = .ok (.iload_n 2, 1) := by decide +kernel
theorem dX0_signOf_22 : decode cX0_signOf 22 = .ok (.iadd, 1) := by decide +kernel
theorem dX0_signOf_23 : decode cX0_signOf 23 = .ok (.iaload, 1) := by decide +kernel
theorem dX0_signOf_24 : decode cX0_signOf 24 = .ok (.goto 4, 3) := by decide +kernel
theorem dX0_signOf_27 : decode cX0_signOf 27 = .ok (.iconst 0, 1) := by decide +kernel
theorem dX0_signOf_28 : decode cX0_signOf 28 = .ok (.ireturn, 1) := by decide +kernel
theorem dX1_init_0 : decode cX1_init 0 = .ok (.aload_n 0, 1) := by decide +kernel
theorem dX1_init_1 : decode cX1_init 1 = .ok (.invokespecial 1, 3) := by decide +kernel
theorem dX1_init_4 : decode cX1_init 4 = .ok (.aload_n 0, 1) := by decide +kernel
theorem dX1_init_5 : decode cX1_init 5 = .ok (.aload_n 1, 1) := by decide +kernel
theorem dX1_init_6 : decode cX1_init 6 = .ok (.putfield 7, 3) := by decide +kernel
theorem dX1_init_9 : decode cX1_init 9 = .ok (.aload_n 0, 1) := by decide +kernel
theorem dX1_init_10 : decode cX1_init 10 = .ok (.iload_n 2, 1) := by decide +kernel
theorem dX1_init_11 : decode cX1_init 11 = .ok (.putfield 13, 3) := by decide +kernel
theorem dX1_init_14 : decode cX1_init 14 = .ok (.aload_n 0, 1) := by decide +kernel
theorem dX1_init_15 : decode cX1_init 15 = .ok (.aload_n 1, 1) := by decide +kernel
theorem dX1_init_16 : decode cX1_init 16 = .ok (.ifnonnull 7, 3) := by decide +kernel
theorem dX1_init_19 : decode cX1_init 19 = .ok (.iconst 0, 1) := by decide +kernel
theorem dX1_init_20 : decode cX1_init 20 = .ok (.goto 9, 3) := by decide +kernel
theorem dX1_init_23 : decode cX1_init 23 = .ok (.aload_n 1, 1) := by decide +kernel
theorem dX1_init_24 : decode cX1_init 24 = .ok (.getfield 17, 3) := by decide +kernel
theorem dX1_init_27 : decode cX1_init 27 = .ok (.iconst 1, 1) := by decide +kernel
theorem dX1_init_28 : decode cX1_init 28 = .ok (.iadd, 1) := by decide +kernel
theorem dX1_init_29 : decode cX1_init 29 = .ok (.putfield 17, 3) := by decide +kernel
theorem dX1_init_32 : decode cX1_init 32 = .ok (.return_, 1) := by decide +kernel
theorem dX1_without_0 : decode cX1_without 0 = .ok (.aload_n 0, 1) := by decide +kernel
theorem dX1_without_1 : decode cX1_without 1 = .ok (.astore_n 2, 1) := by decide +kernel
theorem dX1_without_2 : decode cX1_without 2 = .ok (.iconst 0, 1) := by decide +kernel
theorem dX1_without_3 : decode cX1_without 3 = .ok (.istore_n 3, 1) := by decide +kernel
theorem dX1_without_4 : decode cX1_without 4 = .ok (.iload_n 3, 1) := by decide +kernel
theorem dX1_without_5 : decode cX1_without 5 = .ok (.iload_n 1, 1) := by decide +kernel
theorem dX1_without_6 : decode cX1_without 6 = .ok (.if_icmp .ge 21, 3) := by decide +kernel
theorem dX1_without_9 : decode cX1_without 9 = .ok (.aload_n 2, 1) := by decide +kernel
theorem dX1_without_10 : decode cX1_without 10 = .ok (.getfield 7, 3) := by decide +kernel
theorem dX1_without_13 : decode cX1_without 13 = .ok (.ifnull 14, 3) := by decide +kernel
theorem dX1_without_16 : decode cX1_without 16 = .ok (.aload_n 2, 1) := by decide +kernel
theorem dX1_without_17 : decode cX1_without 17 = .ok (.getfield 7, 3) := by decide +kernel
theorem dX1_without_20 : decode cX1_without 20 = .ok (.astore_n 2, 1) := by decide +kernel
theorem dX1_without_21 : decode cX1_without 21 = .ok (.iinc 3 1, 3) := by decide +kernel
theorem dX1_without_24 : decode cX1_without 24 = .ok (.goto (-20), 3) := by decide +kernel
theorem dX1_without_27 : decode cX1_without 27 = .ok (.aload_n 2, 1) := by decide +kernel
theorem dX1_without_28 : decode cX1_without 28 = .ok (.areturn, 1) := by decide +kernel
theorem dX1_signAt_0 : decode cX1_signAt 0 = .ok (.aload_n 0, 1) := by decide +kernel
theorem dX1_signAt_1 : decode cX1_signAt 1 = .ok (.aload_n 0, 1) := by decide +kernel
theorem dX1_signAt_2 : decode cX1_signAt 2 = .ok (.getfield 17, 3) := by decide +kernel
theorem dX1_signAt_5 : decode cX1_signAt 5 = .ok (.iconst 1, 1) := by decide +kernel
theorem dX1_signAt_6 : decode cX1_signAt 6 = .ok (.isub, 1) := by decide +kernel
theorem dX1_signAt_7 : decode cX1_signAt 7 = .ok (.iload_n 1, 1) := by decide +kernel
theorem dX1_signAt_8 : decode cX1_signAt 8 = .ok (.isub, 1) := by decide +kernel
theorem dX1_signAt_9 : decode cX1_signAt 9 = .ok (.invokevirtual 20, 3) := by decide +kernel
theorem dX1_signAt_12 : decode cX1_signAt 12 = .ok (.getfield 13, 3) := by decide +kernel
theorem dX1_signAt_15 : decode cX1_signAt 15 = .ok (.ireturn, 1) := by decide +kernel
theorem dX2_init_0 : decode cX2_init 0 = .ok (.aload_n 0, 1) := by decide +kernel
theorem dX2_init_1 : decode cX2_init 1 = .ok (.invokespecial 3, 3) := by decide +kernel
theorem dX2_init_4 : decode cX2_init 4 = .ok (.aload_n 0, 1) := by decide +kernel
theorem dX2_init_5 : decode cX2_init 5 = .ok (.bipush 12, 2) := by decide +kernel
theorem dX2_init_7 : decode cX2_init 7 = .ok (.newarray .int, 2) := by decide +kernel
theorem dX2_init_9 : decode cX2_init 9 = .ok (.putfield 9, 3) := by decide +kernel
theorem dX2_init_12 : decode cX2_init 12 = .ok (.aload_n 0, 1) := by decide +kernel
theorem dX2_init_13 : decode cX2_init 13 = .ok (.bipush 40, 2) := by decide +kernel
theorem dX2_init_15 : decode cX2_init 15 = .ok (.newarray .int, 2) := by decide +kernel
theorem dX2_init_17 : decode cX2_init 17 = .ok (.putfield 17, 3) := by decide +kernel
theorem dX2_init_20 : decode cX2_init 20 = .ok (.aload_n 0, 1) := by decide +kernel
theorem dX2_init_21 : decode cX2_init 21 = .ok (.bipush 40, 2) := by decide +kernel
theorem dX2_init_23 : decode cX2_init 23 = .ok (.newarray .int, 2) := by decide +kernel
theorem dX2_init_25 : decode cX2_init 25 = .ok (.putfield 20, 3) := by decide +kernel
theorem dX2_init_28 : decode cX2_init 28 = .ok (.aload_n 0, 1) := by decide +kernel
theorem dX2_init_29 : decode cX2_init 29 = .ok (.aload_n 1, 1) := by decide +kernel
theorem dX2_init_30 : decode cX2_init 30 = .ok (.putfield 23, 3) := by decide +kernel
theorem dX2_init_33 : decode cX2_init 33 = .ok (.aload_n 0, 1) := by decide +kernel
theorem dX2_init_34 : decode cX2_init 34 = .ok (.aload_n 2, 1) := by decide +kernel
theorem dX2_init_35 : decode cX2_init 35 = .ok (.putfield 27, 3) := by decide +kernel
theorem dX2_init_38 : decode cX2_init 38 = .ok (.aload_n 0, 1) := by decide +kernel
theorem dX2_init_39 : decode cX2_init 39 = .ok (.aload_n 3, 1) := by decide +kernel
theorem dX2_init_40 : decode cX2_init 40 = .ok (.putfield 31, 3) := by decide +kernel
theorem dX2_init_43 : decode cX2_init 43 = .ok (.return_, 1) := by decide +kernel
theorem dX2_seekForeseen_0 : decode cX2_seekForeseen 0 = .ok (.aload_n 0, 1) := by decide +kernel
theorem dX2_seekForeseen_1 : decode cX2_seekForeseen 1 = .ok (.iconst 0, 1) := by decide +kernel
theorem dX2_seekForeseen_2 : decode cX2_seekForeseen 2 = .ok (.putfield 35, 3) := by decide +kernel
theorem dX2_seekForeseen_5 : decode cX2_seekForeseen 5 = .ok (.aload_n 0, 1) := by decide +kernel
theorem dX2_seekForeseen_6 : decode cX2_seekForeseen 6 = .ok (.invokevirtual 39, 3) := by decide +kernel
theorem dX2_seekForeseen_9 : decode cX2_seekForeseen 9 = .ok (.istore_n 1, 1) := by decide +kernel
theorem dX2_seekForeseen_10 : decode cX2_seekForeseen 10 = .ok (.iconst 0, 1) := by decide +kernel
theorem dX2_seekForeseen_11 : decode cX2_seekForeseen 11 = .ok (.istore_n 2, 1) := by decide +kernel
theorem dX2_seekForeseen_12 : decode cX2_seekForeseen 12 = .ok (.iload_n 2, 1) := by decide +kernel
theorem dX2_seekForeseen_13 : decode cX2_seekForeseen 13 = .ok (.aload_n 0, 1) := by decide +kernel
theorem dX2_seekForeseen_14 : decode cX2_seekForeseen 14 = .ok (.getfield 23, 3) := by decide +kernel
theorem dX2_seekForeseen_17 : decode cX2_seekForeseen 17 = .ok (.invokevirtual 43, 3) := by decide +kernel
theorem dX2_seekForeseen_20 : decode cX2_seekForeseen 20 = .ok (.if_icmp .ge 43, 3) := by decide +kernel
theorem dX2_seekForeseen_23 : decode cX2_seekForeseen 23 = .ok (.aload_n 0, 1) := by decide +kernel
theorem dX2_seekForeseen_24 : decode cX2_seekForeseen 24 = .ok (.getfield 23, 3) := by decide +kernel
theorem dX2_seekForeseen_27 : decode cX2_seekForeseen 27 = .ok (.iload_n 2, 1) := by decide +kernel
theorem dX2_seekForeseen_28 : decode cX2_seekForeseen 28 = .ok (.invokevirtual 46, 3) := by decide +kernel
theorem dX2_seekForeseen_31 : decode cX2_seekForeseen 31 = .ok (.iload_n 1, 1) := by decide +kernel
theorem dX2_seekForeseen_32 : decode cX2_seekForeseen 32 = .ok (.if_icmp .le 25, 3) := by decide +kernel
theorem dX2_seekForeseen_35 : decode cX2_seekForeseen 35 = .ok (.aload_n 0, 1) := by decide +kernel
theorem dX2_seekForeseen_36 : decode cX2_seekForeseen 36 = .ok (.getfield 23, 3) := by decide +kernel
theorem dX2_seekForeseen_39 : decode cX2_seekForeseen 39 = .ok (.iload_n 2, 1) := by decide +kernel
theorem dX2_seekForeseen_40 : decode cX2_seekForeseen 40 = .ok (.aload_n 0, 1) := by decide +kernel
theorem dX2_seekForeseen_41 : decode cX2_seekForeseen 41 = .ok (.getfield 9, 3) := by decide +kernel
theorem dX2_seekForeseen_44 : decode cX2_seekForeseen 44 = .ok (.iload_n 1, 1) := by decide +kernel
theorem dX2_seekForeseen_45 : decode cX2_seekForeseen 45 = .ok (.invokevirtual 50, 3) := by decide +kernel
theorem dX2_seekForeseen_48 : decode cX2_seekForeseen 48 = .ok (.ifCond .eq 9, 3) := by decide +kernel
theorem dX2_seekForeseen_51 : decode cX2_seekForeseen 51 = .ok (.aload_n 0, 1) := by decide +kernel
theorem dX2_seekForeseen_52 : decode cX2_seekForeseen 52 = .ok (.iload_n 2, 1) := by decide +kernel
theorem dX2_seekForeseen_53 : decode cX2_seekForeseen 53 = .ok (.iconst 0, 1) := by decide +kernel
theorem dX2_seekForeseen_54 : decode cX2_seekForeseen 54 = .ok (.invokevirtual 54, 3) := by decide +kernel
theorem dX2_seekForeseen_57 : decode cX2_seekForeseen 57 = .ok (.iinc 2 1, 3) := by decide +kernel
theorem dX2_seekForeseen_60 : decode cX2_seekForeseen 60 = .ok (.goto (-48), 3) := by decide +kernel
theorem dX2_seekForeseen_63 : decode cX2_seekForeseen 63 = .ok (.return_, 1) := by decide +kernel
theorem dX2_seekOffered_0 : decode cX2_seekOffered 0 = .ok (.aload_n 0, 1) := by decide +kernel
theorem dX2_seekOffered_1 : decode cX2_seekOffered 1 = .ok (.iconst 0, 1) := by decide +kernel
theorem dX2_seekOffered_2 : decode cX2_seekOffered 2 = .ok (.putfield 35, 3) := by decide +kernel
theorem dX2_seekOffered_5 : decode cX2_seekOffered 5 = .ok (.aload_n 0, 1) := by decide +kernel
theorem dX2_seekOffered_6 : decode cX2_seekOffered 6 = .ok (.invokevirtual 39, 3) := by decide +kernel
theorem dX2_seekOffered_9 : decode cX2_seekOffered 9 = .ok (.istore_n 1, 1) := by decide +kernel
theorem dX2_seekOffered_10 : decode cX2_seekOffered 10 = .ok (.iload_n 1, 1) := by decide +kernel
theorem dX2_seekOffered_11 : decode cX2_seekOffered 11 = .ok (.ifCond .eq 19, 3) := by decide +kernel
theorem dX2_seekOffered_14 : decode cX2_seekOffered 14 = .ok (.aload_n 0, 1) := by decide +kernel
theorem dX2_seekOffered_15 : decode cX2_seekOffered 15 = .ok (.getfield 23, 3) := by decide +kernel
theorem dX2_seekOffered_18 : decode cX2_seekOffered 18 = .ok (.aload_n 0, 1) := by decide +kernel
theorem dX2_seekOffered_19 : decode cX2_seekOffered 19 = .ok (.getfield 9, 3) := by decide +kernel
theorem dX2_seekOffered_22 : decode cX2_seekOffered 22 = .ok (.iload_n 1, 1) := by decide +kernel
theorem dX2_seekOffered_23 : decode cX2_seekOffered 23 = .ok (.invokevirtual 58, 3) := by decide +kernel
theorem dX2_seekOffered_26 : decode cX2_seekOffered 26 = .ok (.iconst (-1), 1) := by decide +kernel
theorem dX2_seekOffered_27 : decode cX2_seekOffered 27 = .ok (.if_icmp .eq 4, 3) := by decide +kernel
theorem dX2_seekOffered_30 : decode cX2_seekOffered 30 = .ok (.return_, 1) := by decide +kernel
theorem dX2_seekOffered_31 : decode cX2_seekOffered 31 = .ok (.iconst 0, 1) := by decide +kernel
theorem dX2_seekOffered_32 : decode cX2_seekOffered 32 = .ok (.istore_n 2, 1) := by decide +kernel
theorem dX2_seekOffered_33 : decode cX2_seekOffered 33 = .ok (.iload_n 2, 1) := by decide +kernel
theorem dX2_seekOffered_34 : decode cX2_seekOffered 34 = .ok (.aload_n 0, 1) := by decide +kernel
theorem dX2_seekOffered_35 : decode cX2_seekOffered 35 = .ok (.getfield 23, 3) := by decide +kernel
theorem dX2_seekOffered_38 : decode cX2_seekOffered 38 = .ok (.invokevirtual 43, 3) := by decide +kernel
theorem dX2_seekOffered_41 : decode cX2_seekOffered 41 = .ok (.if_icmp .ge 43, 3) := by decide +kernel
theorem dX2_seekOffered_44 : decode cX2_seekOffered 44 = .ok (.aload_n 0, 1) := by decide +kernel
theorem dX2_seekOffered_45 : decode cX2_seekOffered 45 = .ok (.getfield 23, 3) := by decide +kernel
theorem dX2_seekOffered_48 : decode cX2_seekOffered 48 = .ok (.iload_n 2, 1) := by decide +kernel
theorem dX2_seekOffered_49 : decode cX2_seekOffered 49 = .ok (.invokevirtual 46, 3) := by decide +kernel
theorem dX2_seekOffered_52 : decode cX2_seekOffered 52 = .ok (.iload_n 1, 1) := by decide +kernel
theorem dX2_seekOffered_53 : decode cX2_seekOffered 53 = .ok (.if_icmp .ne 12, 3) := by decide +kernel
theorem dX2_seekOffered_56 : decode cX2_seekOffered 56 = .ok (.aload_n 0, 1) := by decide +kernel
theorem dX2_seekOffered_57 : decode cX2_seekOffered 57 = .ok (.iload_n 2, 1) := by decide +kernel
theorem dX2_seekOffered_58 : decode cX2_seekOffered 58 = .ok (.iload_n 1, 1) := by decide +kernel
theorem dX2_seekOffered_59 : decode cX2_seekOffered 59 = .ok (.invokevirtual 62, 3) := by decide +kernel
theorem dX2_seekOffered_62 : decode cX2_seekOffered 62 = .ok (.goto 4, 3) := by decide +kernel
theorem dX2_seekOffered_65 : decode cX2_seekOffered 65 = .ok (.iconst (-1), 1) := by decide +kernel
theorem dX2_seekOffered_66 : decode cX2_seekOffered 66 = .ok (.istore_n 3, 1) := by decide +kernel
theorem dX2_seekOffered_67 : decode cX2_seekOffered 67 = .ok (.iload_n 3, 1) := by decide +kernel
theorem dX2_seekOffered_68 : decode cX2_seekOffered 68 = .ok (.iconst (-1), 1) := by decide +kernel
theorem dX2_seekOffered_69 : decode cX2_seekOffered 69 = .ok (.if_icmp .eq 9, 3) := by decide +kernel
theorem dX2_seekOffered_72 : decode cX2_seekOffered 72 = .ok (.aload_n 0, 1) := by decide +kernel
theorem dX2_seekOffered_73 : decode cX2_seekOffered 73 = .ok (.iload_n 2, 1) := by decide +kernel
theorem dX2_seekOffered_74 : decode cX2_seekOffered 74 = .ok (.iload_n 3, 1) := by decide +kernel
theorem dX2_seekOffered_75 : decode cX2_seekOffered 75 = .ok (.invokevirtual 54, 3) := by decide +kernel
theorem dX2_seekOffered_78 : decode cX2_seekOffered 78 = .ok (.iinc 2 1, 3) := by decide +kernel
theorem dX2_seekOffered_81 : decode cX2_seekOffered 81 = .ok (.goto (-48), 3) := by decide +kernel
theorem dX2_seekOffered_84 : decode cX2_seekOffered 84 = .ok (.return_, 1) := by decide +kernel
theorem dX2_readWritten_0 : decode cX2_readWritten 0 = .ok (.aload_n 0, 1) := by decide +kernel
theorem dX2_readWritten_1 : decode cX2_readWritten 1 = .ok (.getfield 31, 3) := by decide +kernel
theorem dX2_readWritten_4 : decode cX2_readWritten 4 = .ok (.invokevirtual 66, 3) := by decide +kernel
theorem dX2_readWritten_7 : decode cX2_readWritten 7 = .ok (.istore_n 1, 1) := by decide +kernel
theorem dX2_readWritten_8 : decode cX2_readWritten 8 = .ok (.iload_n 1, 1) := by decide +kernel
theorem dX2_readWritten_9 : decode cX2_readWritten 9 = .ok (.bipush 12, 2) := by decide +kernel
theorem dX2_readWritten_11 : decode cX2_readWritten 11 = .ok (.if_icmp .gt 15, 3) := by decide +kernel
theorem dX2_readWritten_14 : decode cX2_readWritten 14 = .ok (.aload_n 0, 1) := by decide +kernel
theorem dX2_readWritten_15 : decode cX2_readWritten 15 = .ok (.getfield 31, 3) := by decide +kernel
theorem dX2_readWritten_18 : decode cX2_readWritten 18 = .ok (.iload_n 1, 1) := by decide +kernel
theorem dX2_readWritten_19 : decode cX2_readWritten 19 = .ok (.aload_n 0, 1) := by decide +kernel
theorem dX2_readWritten_20 : decode cX2_readWritten 20 = .ok (.getfield 9, 3) := by decide +kernel
theorem dX2_readWritten_23 : decode cX2_readWritten 23 = .ok (.invokevirtual 70, 3) := by decide +kernel
theorem dX2_readWritten_26 : decode cX2_readWritten 26 = .ok (.iload_n 1, 1) := by decide +kernel
theorem dX2_readWritten_27 : decode cX2_readWritten 27 = .ok (.ireturn, 1) := by decide +kernel
theorem dX2_slipsOf_0 : decode cX2_slipsOf 0 = .ok (.iconst 0, 1) := by decide +kernel
theorem dX2_slipsOf_1 : decode cX2_slipsOf 1 = .ok (.istore_n 3, 1) := by decide +kernel
theorem dX2_slipsOf_2 : decode cX2_slipsOf 2 = .ok (.iconst 0, 1) := by decide +kernel
theorem dX2_slipsOf_3 : decode cX2_slipsOf 3 = .ok (.istore 4, 2) := by decide +kernel
theorem dX2_slipsOf_5 : decode cX2_slipsOf 5 = .ok (.iload 4, 2) := by decide +kernel
theorem dX2_slipsOf_7 : decode cX2_slipsOf 7 = .ok (.iload_n 2, 1) := by decide +kernel
theorem dX2_slipsOf_8 : decode cX2_slipsOf 8 = .ok (.if_icmp .ge 69, 3) := by decide +kernel
theorem dX2_slipsOf_11 : decode cX2_slipsOf 11 = .ok (.iload 4, 2) := by decide +kernel
theorem dX2_slipsOf_13 : decode cX2_slipsOf 13 = .ok (.bipush 12, 2) := by decide +kernel
theorem dX2_slipsOf_15 : decode cX2_slipsOf 15 = .ok (.if_icmp .ge 62, 3) := by decide +kernel
theorem dX2_slipsOf_18 : decode cX2_slipsOf 18 = .ok (.aload_n 0, 1) := by decide +kernel
theorem dX2_slipsOf_19 : decode cX2_slipsOf 19 = .ok (.getfield 23, 3) := by decide +kernel
theorem dX2_slipsOf_22 : decode cX2_slipsOf 22 = .ok (.iload_n 1, 1) := by decide +kernel
theorem dX2_slipsOf_23 : decode cX2_slipsOf 23 = .ok (.iload 4, 2) := by decide +kernel
theorem dX2_slipsOf_25 : decode cX2_slipsOf 25 = .ok (.invokevirtual 74, 3) := by decide +kernel
theorem dX2_slipsOf_28 : decode cX2_slipsOf 28 = .ok (.istore 5, 2) := by decide +kernel
theorem dX2_slipsOf_30 : decode cX2_slipsOf 30 = .ok (.iload 5, 2) := by decide +kernel
theorem dX2_slipsOf_32 : decode cX2_slipsOf 32 = .ok (.aload_n 0, 1) := by decide +kernel
theorem dX2_slipsOf_33 : decode cX2_slipsOf 33 = .ok (.getfield 9, 3) := by decide +kernel
theorem dX2_slipsOf_36 : decode cX2_slipsOf 36 = .ok (.iload 4, 2) := by decide +kernel
theorem dX2_slipsOf_38 : decode cX2_slipsOf 38 = .ok (.iaload, 1) := by decide +kernel
theorem dX2_slipsOf_39 : decode cX2_slipsOf 39 = .ok (.if_icmp .eq 32, 3) := by decide +kernel
theorem dX2_slipsOf_42 : decode cX2_slipsOf 42 = .ok (.iinc 3 1, 3) := by decide +kernel
theorem dX2_slipsOf_45 : decode cX2_slipsOf 45 = .ok (.iload_n 3, 1) := by decide +kernel
theorem dX2_slipsOf_46 : decode cX2_slipsOf 46 = .ok (.iconst 2, 1) := by decide +kernel
theorem dX2_slipsOf_47 : decode cX2_slipsOf 47 = .ok (.if_icmp .gt 22, 3) := by decide +kernel
theorem dX2_slipsOf_50 : decode cX2_slipsOf 50 = .ok (.aload_n 0, 1) := by decide +kernel
theorem dX2_slipsOf_51 : decode cX2_slipsOf 51 = .ok (.getfield 27, 3) := by decide +kernel
theorem dX2_slipsOf_54 : decode cX2_slipsOf 54 = .ok (.iload 5, 2) := by decide +kernel
theorem dX2_slipsOf_56 : decode cX2_slipsOf 56 = .ok (.aload_n 0, 1) := by decide +kernel
theorem dX2_slipsOf_57 : decode cX2_slipsOf 57 = .ok (.getfield 9, 3) := by decide +kernel
theorem dX2_slipsOf_60 : decode cX2_slipsOf 60 = .ok (.iload 4, 2) := by decide +kernel
theorem dX2_slipsOf_62 : decode cX2_slipsOf 62 = .ok (.iaload, 1) := by decide +kernel
theorem dX2_slipsOf_63 : decode cX2_slipsOf 63 = .ok (.invokevirtual 77, 3) := by decide +kernel
theorem dX2_slipsOf_66 : decode cX2_slipsOf 66 = .ok (.ifCond .ne 5, 3) := by decide +kernel
theorem dX2_slipsOf_69 : decode cX2_slipsOf 69 = .ok (.iconst (-1), 1) := by decide +kernel
theorem dX2_slipsOf_70 : decode cX2_slipsOf 70 = .ok (.ireturn, 1) := by decide +kernel
theorem dX2_slipsOf_71 : decode cX2_slipsOf 71 = .ok (.iinc 4 1, 3) := by decide +kernel
theorem dX2_slipsOf_74 : decode cX2_slipsOf 74 = .ok (.goto (-69), 3) := by decide +kernel
theorem dX2_slipsOf_77 : decode cX2_slipsOf 77 = .ok (.iload_n 3, 1) := by decide +kernel
theorem dX2_slipsOf_78 : decode cX2_slipsOf 78 = .ok (.ireturn, 1) := by decide +kernel
theorem dX2_enlist_0 : decode cX2_enlist 0 = .ok (.aload_n 0, 1) := by decide +kernel
theorem dX2_enlist_1 : decode cX2_enlist 1 = .ok (.getfield 35, 3) := by decide +kernel
theorem dX2_enlist_4 : decode cX2_enlist 4 = .ok (.bipush 40, 2) := by decide +kernel
theorem dX2_enlist_6 : decode cX2_enlist 6 = .ok (.if_icmp .lt 4, 3) := by decide +kernel
theorem dX2_enlist_9 : decode cX2_enlist 9 = .ok (.return_, 1) := by decide +kernel
theorem dX2_enlist_10 : decode cX2_enlist 10 = .ok (.aload_n 0, 1) := by decide +kernel
theorem dX2_enlist_11 : decode cX2_enlist 11 = .ok (.getfield 35, 3) := by decide +kernel
theorem dX2_enlist_14 : decode cX2_enlist 14 = .ok (.istore_n 3, 1) := by decide +kernel
theorem dX2_enlist_15 : decode cX2_enlist 15 = .ok (.iload_n 3, 1) := by decide +kernel
theorem dX2_enlist_16 : decode cX2_enlist 16 = .ok (.ifCond .le 49, 3) := by decide +kernel
theorem dX2_enlist_19 : decode cX2_enlist 19 = .ok (.aload_n 0, 1) := by decide +kernel
theorem dX2_enlist_20 : decode cX2_enlist 20 = .ok (.iload_n 1, 1) := by decide +kernel
theorem dX2_enlist_21 : decode cX2_enlist 21 = .ok (.iload_n 2, 1) := by decide +kernel
theorem dX2_enlist_22 : decode cX2_enlist 22 = .ok (.iload_n 3, 1) := by decide +kernel
theorem dX2_enlist_23 : decode cX2_enlist 23 = .ok (.iconst 1, 1) := by decide +kernel
theorem dX2_enlist_24 : decode cX2_enlist 24 = .ok (.isub, 1) := by decide +kernel
theorem dX2_enlist_25 : decode cX2_enlist 25 = .ok (.invokevirtual 83, 3) := by decide +kernel
theorem dX2_enlist_28 : decode cX2_enlist 28 = .ok (.ifCond .eq 37, 3) := by decide +kernel
theorem dX2_enlist_31 : decode cX2_enlist 31 = .ok (.aload_n 0, 1) := by decide +kernel
theorem dX2_enlist_32 : decode cX2_enlist 32 = .ok (.getfield 17, 3) := by decide +kernel
theorem dX2_enlist_35 : decode cX2_enlist 35 = .ok (.iload_n 3, 1) := by decide +kernel
theorem dX2_enlist_36 : decode cX2_enlist 36 = .ok (.aload_n 0, 1) := by decide +kernel
theorem dX2_enlist_37 : decode cX2_enlist 37 = .ok (.getfield 17, 3) := by decide +kernel
theorem dX2_enlist_40 : decode cX2_enlist 40 = .ok (.iload_n 3, 1) := by decide +kernel
theorem dX2_enlist_41 : decode cX2_enlist 41 = .ok (.iconst 1, 1) := by decide +kernel
theorem dX2_enlist_42 : decode cX2_enlist 42 = .ok (.isub, 1) := by decide +kernel
theorem dX2_enlist_43 : decode cX2_enlist 43 = .ok (.iaload, 1) := by decide +kernel
theorem dX2_enlist_44 : decode cX2_enlist 44 = .ok (.iastore, 1) := by decide +kernel
theorem dX2_enlist_45 : decode cX2_enlist 45 = .ok (.aload_n 0, 1) := by decide +kernel
theorem dX2_enlist_46 : decode cX2_enlist 46 = .ok (.getfield 20, 3) := by decide +kernel
theorem dX2_enlist_49 : decode cX2_enlist 49 = .ok (.iload_n 3, 1) := by decide +kernel
theorem dX2_enlist_50 : decode cX2_enlist 50 = .ok (.aload_n 0, 1) := by decide +kernel
theorem dX2_enlist_51 : decode cX2_enlist 51 = .ok (.getfield 20, 3) := by decide +kernel
theorem dX2_enlist_54 : decode cX2_enlist 54 = .ok (.iload_n 3, 1) := by decide +kernel
theorem dX2_enlist_55 : decode cX2_enlist 55 = .ok (.iconst 1, 1) := by decide +kernel
theorem dX2_enlist_56 : decode cX2_enlist 56 = .ok (.isub, 1) := by decide +kernel
theorem dX2_enlist_57 : decode cX2_enlist 57 = .ok (.iaload, 1) := by decide +kernel
theorem dX2_enlist_58 : decode cX2_enlist 58 = .ok (.iastore, 1) := by decide +kernel
theorem dX2_enlist_59 : decode cX2_enlist 59 = .ok (.iinc 3 (-1), 3) := by decide +kernel
theorem dX2_enlist_62 : decode cX2_enlist 62 = .ok (.goto (-47), 3) := by decide +kernel
theorem dX2_enlist_65 : decode cX2_enlist 65 = .ok (.aload_n 0, 1) := by decide +kernel
theorem dX2_enlist_66 : decode cX2_enlist 66 = .ok (.getfield 17, 3) := by decide +kernel
theorem dX2_enlist_69 : decode cX2_enlist 69 = .ok (.iload_n 3, 1) := by decide +kernel
theorem dX2_enlist_70 : decode cX2_enlist 70 = .ok (.iload_n 1, 1) := by decide +kernel
theorem dX2_enlist_71 : decode cX2_enlist 71 = .ok (.iastore, 1) := by decide +kernel
theorem dX2_enlist_72 : decode cX2_enlist 72 = .ok (.aload_n 0, 1) := by decide +kernel
theorem dX2_enlist_73 : decode cX2_enlist 73 = .ok (.getfield 20, 3) := by decide +kernel
theorem dX2_enlist_76 : decode cX2_enlist 76 = .ok (.iload_n 3, 1) := by decide +kernel
theorem dX2_enlist_77 : decode cX2_enlist 77 = .ok (.iload_n 2, 1) := by decide +kernel
theorem dX2_enlist_78 : decode cX2_enlist 78 = .ok (.iastore, 1) := by decide +kernel
theorem dX2_enlist_79 : decode cX2_enlist 79 = .ok (.aload_n 0, 1) := by decide +kernel
theorem dX2_enlist_80 : decode cX2_enlist 80 = .ok (.dup, 1) := by decide +kernel
theorem dX2_enlist_81 : decode cX2_enlist 81 = .ok (.getfield 35, 3) := by decide +kernel
theorem dX2_enlist_84 : decode cX2_enlist 84 = .ok (.iconst 1, 1) := by decide +kernel
theorem dX2_enlist_85 : decode cX2_enlist 85 = .ok (.iadd, 1) := by decide +kernel
theorem dX2_enlist_86 : decode cX2_enlist 86 = .ok (.putfield 35, 3) := by decide +kernel
theorem dX2_enlist_89 : decode cX2_enlist 89 = .ok (.return_, 1) := by decide +kernel
theorem dX2_isBetter_0 : decode cX2_isBetter 0 = .ok (.iload_n 2, 1) := by decide +kernel
theorem dX2_isBetter_1 : decode cX2_isBetter 1 = .ok (.aload_n 0, 1) := by decide +kernel
theorem dX2_isBetter_2 : decode cX2_isBetter 2 = .ok (.getfield 20, 3) := by decide +kernel
theorem dX2_isBetter_5 : decode cX2_isBetter 5 = .ok (.iload_n 3, 1) := by decide +kernel
theorem dX2_isBetter_6 : decode cX2_isBetter 6 = .ok (.iaload, 1) := by decide +kernel
theorem dX2_isBetter_7 : decode cX2_isBetter 7 = .ok (.if_icmp .eq 19, 3) := by decide +kernel
theorem dX2_isBetter_10 : decode cX2_isBetter 10 = .ok (.iload_n 2, 1) := by decide +kernel
theorem dX2_isBetter_11 : decode cX2_isBetter 11 = .ok (.aload_n 0, 1) := by decide +kernel
theorem dX2_isBetter_12 : decode cX2_isBetter 12 = .ok (.getfield 20, 3) := by decide +kernel
theorem dX2_isBetter_15 : decode cX2_isBetter 15 = .ok (.iload_n 3, 1) := by decide +kernel
theorem dX2_isBetter_16 : decode cX2_isBetter 16 = .ok (.iaload, 1) := by decide +kernel
theorem dX2_isBetter_17 : decode cX2_isBetter 17 = .ok (.if_icmp .ge 7, 3) := by decide +kernel
theorem dX2_isBetter_20 : decode cX2_isBetter 20 = .ok (.iconst 1, 1) := by decide +kernel
theorem dX2_isBetter_21 : decode cX2_isBetter 21 = .ok (.goto 4, 3) := by decide +kernel
theorem dX2_isBetter_24 : decode cX2_isBetter 24 = .ok (.iconst 0, 1) := by decide +kernel
theorem dX2_isBetter_25 : decode cX2_isBetter 25 = .ok (.ireturn, 1) := by decide +kernel
theorem dX2_isBetter_26 : decode cX2_isBetter 26 = .ok (.aload_n 0, 1) := by decide +kernel
theorem dX2_isBetter_27 : decode cX2_isBetter 27 = .ok (.getfield 23, 3) := by decide +kernel
theorem dX2_isBetter_30 : decode cX2_isBetter 30 = .ok (.iload_n 1, 1) := by decide +kernel
theorem dX2_isBetter_31 : decode cX2_isBetter 31 = .ok (.invokevirtual 87, 3) := by decide +kernel
theorem dX2_isBetter_34 : decode cX2_isBetter 34 = .ok (.aload_n 0, 1) := by decide +kernel
theorem dX2_isBetter_35 : decode cX2_isBetter 35 = .ok (.getfield 23, 3) := by decide +kernel
theorem dX2_isBetter_38 : decode cX2_isBetter 38 = .ok (.aload_n 0, 1) := by decide +kernel
theorem dX2_isBetter_39 : decode cX2_isBetter 39 = .ok (.getfield 17, 3) := by decide +kernel
theorem dX2_isBetter_42 : decode cX2_isBetter 42 = .ok (.iload_n 3, 1) := by decide +kernel
theorem dX2_isBetter_43 : decode cX2_isBetter 43 = .ok (.iaload, 1) := by decide +kernel
theorem dX2_isBetter_44 : decode cX2_isBetter 44 = .ok (.invokevirtual 87, 3) := by decide +kernel
theorem dX2_isBetter_47 : decode cX2_isBetter 47 = .ok (.if_icmp .le 7, 3) := by decide +kernel
theorem dX2_isBetter_50 : decode cX2_isBetter 50 = .ok (.iconst 1, 1) := by decide +kernel
theorem dX2_isBetter_51 : decode cX2_isBetter 51 = .ok (.goto 4, 3) := by decide +kernel
theorem dX2_isBetter_54 : decode cX2_isBetter 54 = .ok (.iconst 0, 1) := by decide +kernel
theorem dX2_isBetter_55 : decode cX2_isBetter 55 = .ok (.ireturn, 1) := by decide +kernel
theorem dX2_found_0 : decode cX2_found 0 = .ok (.aload_n 0, 1) := by decide +kernel
theorem dX2_found_1 : decode cX2_found 1 = .ok (.getfield 35, 3) := by decide +kernel
theorem dX2_found_4 : decode cX2_found 4 = .ok (.ireturn, 1) := by decide +kernel
theorem dX2_foundAt_0 : decode cX2_foundAt 0 = .ok (.iload_n 1, 1) := by decide +kernel
theorem dX2_foundAt_1 : decode cX2_foundAt 1 = .ok (.ifCond .lt 20, 3) := by decide +kernel
theorem dX2_foundAt_4 : decode cX2_foundAt 4 = .ok (.iload_n 1, 1) := by decide +kernel
theorem dX2_foundAt_5 : decode cX2_foundAt 5 = .ok (.aload_n 0, 1) := by decide +kernel
theorem dX2_foundAt_6 : decode cX2_foundAt 6 = .ok (.getfield 35, 3) := by decide +kernel
theorem dX2_foundAt_9 : decode cX2_foundAt 9 = .ok (.if_icmp .ge 12, 3) := by decide +kernel
theorem dX2_foundAt_12 : decode cX2_foundAt 12 = .ok (.aload_n 0, 1) := by decide +kernel
theorem dX2_foundAt_13 : decode cX2_foundAt 13 = .ok (.getfield 17, 3) := by decide +kernel
theorem dX2_foundAt_16 : decode cX2_foundAt 16 = .ok (.iload_n 1, 1) := by decide +kernel
theorem dX2_foundAt_17 : decode cX2_foundAt 17 = .ok (.iaload, 1) := by decide +kernel
theorem dX2_foundAt_18 : decode cX2_foundAt 18 = .ok (.goto 4, 3) := by decide +kernel
theorem dX2_foundAt_21 : decode cX2_foundAt 21 = .ok (.iconst (-1), 1) := by decide +kernel
theorem dX2_foundAt_22 : decode cX2_foundAt 22 = .ok (.ireturn, 1) := by decide +kernel
theorem dX3_init_0 : decode cX3_init 0 = .ok (.aload_n 0, 1) := by decide +kernel
theorem dX3_init_1 : decode cX3_init 1 = .ok (.invokespecial 3, 3) := by decide +kernel
theorem dX3_init_4 : decode cX3_init 4 = .ok (.aload_n 0, 1) := by decide +kernel
theorem dX3_init_5 : decode cX3_init 5 = .ok (.aload_n 1, 1) := by decide +kernel
theorem dX3_init_6 : decode cX3_init 6 = .ok (.putfield 9, 3) := by decide +kernel
theorem dX3_init_9 : decode cX3_init 9 = .ok (.aload_n 0, 1) := by decide +kernel
theorem dX3_init_10 : decode cX3_init 10 = .ok (.aload_n 2, 1) := by decide +kernel
theorem dX3_init_11 : decode cX3_init 11 = .ok (.putfield 15, 3) := by decide +kernel
theorem dX3_init_14 : decode cX3_init 14 = .ok (.aload_n 0, 1) := by decide +kernel
theorem dX3_init_15 : decode cX3_init 15 = .ok (.iconst 0, 1) := by decide +kernel
theorem dX3_init_16 : decode cX3_init 16 = .ok (.invokevirtual 19, 3) := by decide +kernel
theorem dX3_init_19 : decode cX3_init 19 = .ok (.return_, 1) := by decide +kernel
theorem dX3_comeTo_0 : decode cX3_comeTo 0 = .ok (.aload_n 0, 1) := by decide +kernel
theorem dX3_comeTo_1 : decode cX3_comeTo 1 = .ok (.iload_n 1, 1) := by decide +kernel
theorem dX3_comeTo_2 : decode cX3_comeTo 2 = .ok (.putfield 23, 3) := by decide +kernel
theorem dX3_comeTo_5 : decode cX3_comeTo 5 = .ok (.aload_n 0, 1) := by decide +kernel
theorem dX3_comeTo_6 : decode cX3_comeTo 6 = .ok (.aload_n 0, 1) := by decide +kernel
theorem dX3_comeTo_7 : decode cX3_comeTo 7 = .ok (.getfield 9, 3) := by decide +kernel
theorem dX3_comeTo_10 : decode cX3_comeTo 10 = .ok (.iload_n 1, 1) := by decide +kernel
theorem dX3_comeTo_11 : decode cX3_comeTo 11 = .ok (.invokevirtual 27, 3) := by decide +kernel
theorem dX3_comeTo_14 : decode cX3_comeTo 14 = .ok (.putfield 33, 3) := by decide +kernel
theorem dX3_comeTo_17 : decode cX3_comeTo 17 = .ok (.aload_n 0, 1) := by decide +kernel
theorem dX3_comeTo_18 : decode cX3_comeTo 18 = .ok (.iconst (-1), 1) := by decide +kernel
theorem dX3_comeTo_19 : decode cX3_comeTo 19 = .ok (.putfield 36, 3) := by decide +kernel
theorem dX3_comeTo_22 : decode cX3_comeTo 22 = .ok (.aload_n 0, 1) := by decide +kernel
theorem dX3_comeTo_23 : decode cX3_comeTo 23 = .ok (.aload_n 0, 1) := by decide +kernel
theorem dX3_comeTo_24 : decode cX3_comeTo 24 = .ok (.getfield 39, 3) := by decide +kernel
theorem dX3_comeTo_27 : decode cX3_comeTo 27 = .ok (.putfield 42, 3) := by decide +kernel
theorem dX3_comeTo_30 : decode cX3_comeTo 30 = .ok (.aload_n 0, 1) := by decide +kernel
theorem dX3_comeTo_31 : decode cX3_comeTo 31 = .ok (.iconst 0, 1) := by decide +kernel
theorem dX3_comeTo_32 : decode cX3_comeTo 32 = .ok (.putfield 45, 3) := by decide +kernel
theorem dX3_comeTo_35 : decode cX3_comeTo 35 = .ok (.return_, 1) := by decide +kernel
theorem dX3_pass_0 : decode cX3_pass 0 = .ok (.iload_n 1, 1) := by decide +kernel
theorem dX3_pass_1 : decode cX3_pass 1 = .ok (.iconst 0, 1) := by decide +kernel
theorem dX3_pass_2 : decode cX3_pass 2 = .ok (.sipush 1000, 3) := by decide +kernel
theorem dX3_pass_5 : decode cX3_pass 5 = .ok (.invokestatic 48, 3) := by decide +kernel
theorem dX3_pass_8 : decode cX3_pass 8 = .ok (.ifCond .eq 14, 3) := by decide +kernel
theorem dX3_pass_11 : decode cX3_pass 11 = .ok (.aload_n 0, 1) := by decide +kernel
theorem dX3_pass_12 : decode cX3_pass 12 = .ok (.getfield 39, 3) := by decide +kernel
theorem dX3_pass_15 : decode cX3_pass 15 = .ok (.ldc 52, 2) := by decide +kernel
theorem dX3_pass_17 : decode cX3_pass 17 = .ok (.iload_n 1, 1) := by decide +kernel
theorem dX3_pass_18 : decode cX3_pass 18 = .ok (.isub, 1) := by decide +kernel
theorem dX3_pass_19 : decode cX3_pass 19 = .ok (.if_icmp .le 6, 3) := by decide +kernel
theorem dX3_pass_22 : decode cX3_pass 22 = .ok (.bipush (-2), 2) := by decide +kernel
theorem dX3_pass_24 : decode cX3_pass 24 = .ok (.ireturn, 1) := by decide +kernel
theorem dX3_pass_25 : decode cX3_pass 25 = .ok (.aload_n 0, 1) := by decide +kernel
theorem dX3_pass_26 : decode cX3_pass 26 = .ok (.getfield 39, 3) := by decide +kernel
theorem dX3_pass_29 : decode cX3_pass 29 = .ok (.iload_n 1, 1) := by decide +kernel
theorem dX3_pass_30 : decode cX3_pass 30 = .ok (.iadd, 1) := by decide +kernel
theorem dX3_pass_31 : decode cX3_pass 31 = .ok (.istore_n 2, 1) := by decide +kernel
theorem dX3_pass_32 : decode cX3_pass 32 = .ok (.iconst 0, 1) := by decide +kernel
theorem dX3_pass_33 : decode cX3_pass 33 = .ok (.istore_n 3, 1) := by decide +kernel
theorem dX3_pass_34 : decode cX3_pass 34 = .ok (.iload_n 3, 1) := by decide +kernel
theorem dX3_pass_35 : decode cX3_pass 35 = .ok (.iload_n 1, 1) := by decide +kernel
theorem dX3_pass_36 : decode cX3_pass 36 = .ok (.if_icmp .ge 73, 3) := by decide +kernel
theorem dX3_pass_39 : decode cX3_pass 39 = .ok (.aload_n 0, 1) := by decide +kernel
theorem dX3_pass_40 : decode cX3_pass 40 = .ok (.getfield 39, 3) := by decide +kernel
theorem dX3_pass_43 : decode cX3_pass 43 = .ok (.iload_n 2, 1) := by decide +kernel
theorem dX3_pass_44 : decode cX3_pass 44 = .ok (.if_icmp .ge 65, 3) := by decide +kernel
theorem dX3_pass_47 : decode cX3_pass 47 = .ok (.aload_n 0, 1) := by decide +kernel
theorem dX3_pass_48 : decode cX3_pass 48 = .ok (.getfield 39, 3) := by decide +kernel
theorem dX3_pass_51 : decode cX3_pass 51 = .ok (.iconst 1, 1) := by decide +kernel
theorem dX3_pass_52 : decode cX3_pass 52 = .ok (.iadd, 1) := by decide +kernel
theorem dX3_pass_53 : decode cX3_pass 53 = .ok (.aload_n 0, 1) := by decide +kernel
theorem dX3_pass_54 : decode cX3_pass 54 = .ok (.getfield 42, 3) := by decide +kernel
theorem dX3_pass_57 : decode cX3_pass 57 = .ok (.aload_n 0, 1) := by decide +kernel
theorem dX3_pass_58 : decode cX3_pass 58 = .ok (.getfield 15, 3) := by decide +kernel
theorem dX3_pass_61 : decode cX3_pass 61 = .ok (.iconst 0, 1) := by decide +kernel
theorem dX3_pass_62 : decode cX3_pass 62 = .ok (.invokevirtual 53, 3) := by decide +kernel
theorem dX3_pass_65 : decode cX3_pass 65 = .ok (.iadd, 1) := by decide +kernel
theorem dX3_pass_66 : decode cX3_pass 66 = .ok (.invokestatic 58, 3) := by decide +kernel
theorem dX3_pass_69 : decode cX3_pass 69 = .ok (.istore 4, 2) := by decide +kernel
theorem dX3_pass_71 : decode cX3_pass 71 = .ok (.aload_n 0, 1) := by decide +kernel
theorem dX3_pass_72 : decode cX3_pass 72 = .ok (.getfield 33, 3) := by decide +kernel
theorem dX3_pass_75 : decode cX3_pass 75 = .ok (.iconst (-1), 1) := by decide +kernel
theorem dX3_pass_76 : decode cX3_pass 76 = .ok (.if_icmp .eq 9, 3) := by decide +kernel
theorem dX3_pass_79 : decode cX3_pass 79 = .ok (.iload 4, 2) := by decide +kernel
theorem dX3_pass_81 : decode cX3_pass 81 = .ok (.iload_n 2, 1) := by decide +kernel
theorem dX3_pass_82 : decode cX3_pass 82 = .ok (.if_icmp .le 11, 3) := by decide +kernel
theorem dX3_pass_85 : decode cX3_pass 85 = .ok (.aload_n 0, 1) := by decide +kernel
theorem dX3_pass_86 : decode cX3_pass 86 = .ok (.iload_n 2, 1) := by decide +kernel
theorem dX3_pass_87 : decode cX3_pass 87 = .ok (.putfield 39, 3) := by decide +kernel
theorem dX3_pass_90 : decode cX3_pass 90 = .ok (.goto 13, 3) := by decide +kernel
theorem dX3_pass_93 : decode cX3_pass 93 = .ok (.aload_n 0, 1) := by decide +kernel
theorem dX3_pass_94 : decode cX3_pass 94 = .ok (.iload 4, 2) := by decide +kernel
theorem dX3_pass_96 : decode cX3_pass 96 = .ok (.putfield 39, 3) := by decide +kernel
theorem dX3_pass_99 : decode cX3_pass 99 = .ok (.aload_n 0, 1) := by decide +kernel
theorem dX3_pass_100 : decode cX3_pass 100 = .ok (.invokevirtual 64, 3) := by decide +kernel
theorem dX3_pass_103 : decode cX3_pass 103 = .ok (.iinc 3 1, 3) := by decide +kernel
theorem dX3_pass_106 : decode cX3_pass 106 = .ok (.goto (-72), 3) := by decide +kernel
theorem dX3_pass_109 : decode cX3_pass 109 = .ok (.aload_n 0, 1) := by decide +kernel
theorem dX3_pass_110 : decode cX3_pass 110 = .ok (.getfield 33, 3) := by decide +kernel
theorem dX3_pass_113 : decode cX3_pass 113 = .ok (.ireturn, 1) := by decide +kernel
theorem dX3_change_0 : decode cX3_change 0 = .ok (.aload_n 0, 1) := by decide +kernel
theorem dX3_change_1 : decode cX3_change 1 = .ok (.getfield 9, 3) := by decide +kernel
theorem dX3_change_4 : decode cX3_change 4 = .ok (.aload_n 0, 1) := by decide +kernel
theorem dX3_change_5 : decode cX3_change 5 = .ok (.getfield 33, 3) := by decide +kernel
theorem dX3_change_8 : decode cX3_change 8 = .ok (.invokevirtual 67, 3) := by decide +kernel
theorem dX3_change_11 : decode cX3_change 11 = .ok (.istore_n 1, 1) := by decide +kernel
theorem dX3_change_12 : decode cX3_change 12 = .ok (.iload_n 1, 1) := by decide +kernel
theorem dX3_change_13 : decode cX3_change 13 = .ok (.iconst (-1), 1) := by decide +kernel
theorem dX3_change_14 : decode cX3_change 14 = .ok (.if_icmp .ne 53, 3) := by decide +kernel
theorem dX3_change_17 : decode cX3_change 17 = .ok (.aload_n 0, 1) := by decide +kernel
theorem dX3_change_18 : decode cX3_change 18 = .ok (.dup, 1) := by decide +kernel
theorem dX3_change_19 : decode cX3_change 19 = .ok (.getfield 45, 3) := by decide +kernel
theorem dX3_change_22 : decode cX3_change 22 = .ok (.iconst 1, 1) := by decide +kernel
theorem dX3_change_23 : decode cX3_change 23 = .ok (.iadd, 1) := by decide +kernel
theorem dX3_change_24 : decode cX3_change 24 = .ok (.putfield 45, 3) := by decide +kernel
theorem dX3_change_27 : decode cX3_change 27 = .ok (.aload_n 0, 1) := by decide +kernel
theorem dX3_change_28 : decode cX3_change 28 = .ok (.getfield 23, 3) := by decide +kernel
theorem dX3_change_31 : decode cX3_change 31 = .ok (.ifCond .eq 24, 3) := by decide +kernel
theorem dX3_change_34 : decode cX3_change 34 = .ok (.aload_n 0, 1) := by decide +kernel
theorem dX3_change_35 : decode cX3_change 35 = .ok (.getfield 45, 3) := by decide +kernel
theorem dX3_change_38 : decode cX3_change 38 = .ok (.aload_n 0, 1) := by decide +kernel
theorem dX3_change_39 : decode cX3_change 39 = .ok (.getfield 15, 3) := by decide +kernel
theorem dX3_change_42 : decode cX3_change 42 = .ok (.iconst 1, 1) := by decide +kernel
theorem dX3_change_43 : decode cX3_change 43 = .ok (.invokevirtual 53, 3) := by decide +kernel
theorem dX3_change_46 : decode cX3_change 46 = .ok (.if_icmp .lt 9, 3) := by decide +kernel
theorem dX3_change_49 : decode cX3_change 49 = .ok (.aload_n 0, 1) := by decide +kernel
theorem dX3_change_50 : decode cX3_change 50 = .ok (.iconst 0, 1) := by decide +kernel
theorem dX3_change_51 : decode cX3_change 51 = .ok (.invokevirtual 19, 3) := by decide +kernel
theorem dX3_change_54 : decode cX3_change 54 = .ok (.return_, 1) := by decide +kernel
theorem dX3_change_55 : decode cX3_change 55 = .ok (.aload_n 0, 1) := by decide +kernel
theorem dX3_change_56 : decode cX3_change 56 = .ok (.getfield 9, 3) := by decide +kernel
theorem dX3_change_59 : decode cX3_change 59 = .ok (.aload_n 0, 1) := by decide +kernel
theorem dX3_change_60 : decode cX3_change 60 = .ok (.getfield 23, 3) := by decide +kernel
theorem dX3_change_63 : decode cX3_change 63 = .ok (.invokevirtual 27, 3) := by decide +kernel
theorem dX3_change_66 : decode cX3_change 66 = .ok (.istore_n 1, 1) := by decide +kernel
theorem dX3_change_67 : decode cX3_change 67 = .ok (.aload_n 0, 1) := by decide +kernel
theorem dX3_change_68 : decode cX3_change 68 = .ok (.aload_n 0, 1) := by decide +kernel
theorem dX3_change_69 : decode cX3_change 69 = .ok (.getfield 33, 3) := by decide +kernel
theorem dX3_change_72 : decode cX3_change 72 = .ok (.putfield 36, 3) := by decide +kernel
theorem dX3_change_75 : decode cX3_change 75 = .ok (.aload_n 0, 1) := by decide +kernel
theorem dX3_change_76 : decode cX3_change 76 = .ok (.iload_n 1, 1) := by decide +kernel
theorem dX3_change_77 : decode cX3_change 77 = .ok (.putfield 33, 3) := by decide +kernel
theorem dX3_change_80 : decode cX3_change 80 = .ok (.aload_n 0, 1) := by decide +kernel
theorem dX3_change_81 : decode cX3_change 81 = .ok (.aload_n 0, 1) := by decide +kernel
theorem dX3_change_82 : decode cX3_change 82 = .ok (.getfield 39, 3) := by decide +kernel
theorem dX3_change_85 : decode cX3_change 85 = .ok (.putfield 42, 3) := by decide +kernel
theorem dX3_change_88 : decode cX3_change 88 = .ok (.return_, 1) := by decide +kernel
theorem dX3_take_0 : decode cX3_take 0 = .ok (.aload_n 0, 1) := by decide +kernel
theorem dX3_take_1 : decode cX3_take 1 = .ok (.getfield 33, 3) := by decide +kernel
theorem dX3_take_4 : decode cX3_take 4 = .ok (.iconst (-1), 1) := by decide +kernel
theorem dX3_take_5 : decode cX3_take 5 = .ok (.if_icmp .eq 30, 3) := by decide +kernel
theorem dX3_take_8 : decode cX3_take 8 = .ok (.aload_n 0, 1) := by decide +kernel
theorem dX3_take_9 : decode cX3_take 9 = .ok (.getfield 70, 3) := by decide +kernel
theorem dX3_take_12 : decode cX3_take 12 = .ok (.ifCond .le 25, 3) := by decide +kernel
theorem dX3_take_15 : decode cX3_take 15 = .ok (.aload_n 0, 1) := by decide +kernel
theorem dX3_take_16 : decode cX3_take 16 = .ok (.getfield 39, 3) := by decide +kernel
theorem dX3_take_19 : decode cX3_take 19 = .ok (.aload_n 0, 1) := by decide +kernel
theorem dX3_take_20 : decode cX3_take 20 = .ok (.getfield 73, 3) := by decide +kernel
theorem dX3_take_23 : decode cX3_take 23 = .ok (.isub, 1) := by decide +kernel
theorem dX3_take_24 : decode cX3_take 24 = .ok (.aload_n 0, 1) := by decide +kernel
theorem dX3_take_25 : decode cX3_take 25 = .ok (.getfield 15, 3) := by decide +kernel
theorem dX3_take_28 : decode cX3_take 28 = .ok (.iconst 3, 1) := by decide +kernel
theorem dX3_take_29 : decode cX3_take 29 = .ok (.invokevirtual 53, 3) := by decide +kernel
theorem dX3_take_32 : decode cX3_take 32 = .ok (.if_icmp .ge 5, 3) := by decide +kernel
theorem dX3_take_35 : decode cX3_take 35 = .ok (.iconst (-1), 1) := by decide +kernel
theorem dX3_take_36 : decode cX3_take 36 = .ok (.ireturn, 1) := by decide +kernel
theorem dX3_take_37 : decode cX3_take 37 = .ok (.aload_n 0, 1) := by decide +kernel
theorem dX3_take_38 : decode cX3_take 38 = .ok (.dup, 1) := by decide +kernel
theorem dX3_take_39 : decode cX3_take 39 = .ok (.getfield 70, 3) := by decide +kernel
theorem dX3_take_42 : decode cX3_take 42 = .ok (.iconst 1, 1) := by decide +kernel
theorem dX3_take_43 : decode cX3_take 43 = .ok (.iadd, 1) := by decide +kernel
theorem dX3_take_44 : decode cX3_take 44 = .ok (.putfield 70, 3) := by decide +kernel
theorem dX3_take_47 : decode cX3_take 47 = .ok (.aload_n 0, 1) := by decide +kernel
theorem dX3_take_48 : decode cX3_take 48 = .ok (.aload_n 0, 1) := by decide +kernel
theorem dX3_take_49 : decode cX3_take 49 = .ok (.getfield 39, 3) := by decide +kernel
theorem dX3_take_52 : decode cX3_take 52 = .ok (.putfield 73, 3) := by decide +kernel
theorem dX3_take_55 : decode cX3_take 55 = .ok (.aload_n 0, 1) := by decide +kernel
theorem dX3_take_56 : decode cX3_take 56 = .ok (.getfield 36, 3) := by decide +kernel
theorem dX3_take_59 : decode cX3_take 59 = .ok (.iconst (-1), 1) := by decide +kernel
theorem dX3_take_60 : decode cX3_take 60 = .ok (.if_icmp .eq 27, 3) := by decide +kernel
theorem dX3_take_63 : decode cX3_take 63 = .ok (.aload_n 0, 1) := by decide +kernel
theorem dX3_take_64 : decode cX3_take 64 = .ok (.getfield 39, 3) := by decide +kernel
theorem dX3_take_67 : decode cX3_take 67 = .ok (.aload_n 0, 1) := by decide +kernel
theorem dX3_take_68 : decode cX3_take 68 = .ok (.getfield 42, 3) := by decide +kernel
theorem dX3_take_71 : decode cX3_take 71 = .ok (.isub, 1) := by decide +kernel
theorem dX3_take_72 : decode cX3_take 72 = .ok (.aload_n 0, 1) := by decide +kernel
theorem dX3_take_73 : decode cX3_take 73 = .ok (.getfield 15, 3) := by decide +kernel
theorem dX3_take_76 : decode cX3_take 76 = .ok (.iconst 2, 1) := by decide +kernel
theorem dX3_take_77 : decode cX3_take 77 = .ok (.invokevirtual 53, 3) := by decide +kernel
theorem dX3_take_80 : decode cX3_take 80 = .ok (.if_icmp .ge 7, 3) := by decide +kernel
theorem dX3_take_83 : decode cX3_take 83 = .ok (.iconst 1, 1) := by decide +kernel
theorem dX3_take_84 : decode cX3_take 84 = .ok (.goto 4, 3) := by decide +kernel
theorem dX3_take_87 : decode cX3_take 87 = .ok (.iconst 0, 1) := by decide +kernel
theorem dX3_take_88 : decode cX3_take 88 = .ok (.istore_n 1, 1) := by decide +kernel
theorem dX3_take_89 : decode cX3_take 89 = .ok (.iload_n 1, 1) := by decide +kernel
theorem dX3_take_90 : decode cX3_take 90 = .ok (.ifCond .eq 10, 3) := by decide +kernel
theorem dX3_take_93 : decode cX3_take 93 = .ok (.aload_n 0, 1) := by decide +kernel
theorem dX3_take_94 : decode cX3_take 94 = .ok (.getfield 36, 3) := by decide +kernel
theorem dX3_take_97 : decode cX3_take 97 = .ok (.goto 7, 3) := by decide +kernel
theorem dX3_take_100 : decode cX3_take 100 = .ok (.aload_n 0, 1) := by decide +kernel
theorem dX3_take_101 : decode cX3_take 101 = .ok (.getfield 33, 3) := by decide +kernel
theorem dX3_take_104 : decode cX3_take 104 = .ok (.ireturn, 1) := by decide +kernel
theorem dX3_tell_0 : decode cX3_tell 0 = .ok (.iload_n 1, 1) := by decide +kernel
theorem dX3_tell_1 : decode cX3_tell 1 = .ok (.tableswitch 78 0 6 #[43, 48, 53, 58, 63, 68, 73], 43) := by decide +kernel
theorem dX3_tell_44 : decode cX3_tell 44 = .ok (.aload_n 0, 1) := by decide +kernel
theorem dX3_tell_45 : decode cX3_tell 45 = .ok (.getfield 39, 3) := by decide +kernel
theorem dX3_tell_48 : decode cX3_tell 48 = .ok (.ireturn, 1) := by decide +kernel
theorem dX3_tell_49 : decode cX3_tell 49 = .ok (.aload_n 0, 1) := by decide +kernel
theorem dX3_tell_50 : decode cX3_tell 50 = .ok (.getfield 23, 3) := by decide +kernel
theorem dX3_tell_53 : decode cX3_tell 53 = .ok (.ireturn, 1) := by decide +kernel
theorem dX3_tell_54 : decode cX3_tell 54 = .ok (.aload_n 0, 1) := by decide +kernel
theorem dX3_tell_55 : decode cX3_tell 55 = .ok (.getfield 33, 3) := by decide +kernel
theorem dX3_tell_58 : decode cX3_tell 58 = .ok (.ireturn, 1) := by decide +kernel
theorem dX3_tell_59 : decode cX3_tell 59 = .ok (.aload_n 0, 1) := by decide +kernel
theorem dX3_tell_60 : decode cX3_tell 60 = .ok (.getfield 36, 3) := by decide +kernel
theorem dX3_tell_63 : decode cX3_tell 63 = .ok (.ireturn, 1) := by decide +kernel
theorem dX3_tell_64 : decode cX3_tell 64 = .ok (.aload_n 0, 1) := by decide +kernel
theorem dX3_tell_65 : decode cX3_tell 65 = .ok (.getfield 42, 3) := by decide +kernel
theorem dX3_tell_68 : decode cX3_tell 68 = .ok (.ireturn, 1) := by decide +kernel
theorem dX3_tell_69 : decode cX3_tell 69 = .ok (.aload_n 0, 1) := by decide +kernel
theorem dX3_tell_70 : decode cX3_tell 70 = .ok (.getfield 45, 3) := by decide +kernel
theorem dX3_tell_73 : decode cX3_tell 73 = .ok (.ireturn, 1) := by decide +kernel
theorem dX3_tell_74 : decode cX3_tell 74 = .ok (.aload_n 0, 1) := by decide +kernel
theorem dX3_tell_75 : decode cX3_tell 75 = .ok (.getfield 70, 3) := by decide +kernel
theorem dX3_tell_78 : decode cX3_tell 78 = .ok (.ireturn, 1) := by decide +kernel
theorem dX3_tell_79 : decode cX3_tell 79 = .ok (.iconst (-1), 1) := by decide +kernel
theorem dX3_tell_80 : decode cX3_tell 80 = .ok (.ireturn, 1) := by decide +kernel
theorem dX4_init_0 : decode cX4_init 0 = .ok (.aload_n 0, 1) := by decide +kernel
theorem dX4_init_1 : decode cX4_init 1 = .ok (.invokespecial 3, 3) := by decide +kernel
theorem dX4_init_4 : decode cX4_init 4 = .ok (.aload_n 0, 1) := by decide +kernel
theorem dX4_init_5 : decode cX4_init 5 = .ok (.iconst 5, 1) := by decide +kernel
theorem dX4_init_6 : decode cX4_init 6 = .ok (.newarray .int, 2) := by decide +kernel
theorem dX4_init_8 : decode cX4_init 8 = .ok (.dup, 1) := by decide +kernel
theorem dX4_init_9 : decode cX4_init 9 = .ok (.iconst 0, 1) := by decide +kernel
theorem dX4_init_10 : decode cX4_init 10 = .ok (.iconst 4, 1) := by decide +kernel
theorem dX4_init_11 : decode cX4_init 11 = .ok (.iastore, 1) := by decide +kernel
theorem dX4_init_12 : decode cX4_init 12 = .ok (.dup, 1) := by decide +kernel
theorem dX4_init_13 : decode cX4_init 13 = .ok (.iconst 1, 1) := by decide +kernel
theorem dX4_init_14 : decode cX4_init 14 = .ok (.iconst 2, 1) := by decide +kernel
theorem dX4_init_15 : decode cX4_init 15 = .ok (.iastore, 1) := by decide +kernel
theorem dX4_init_16 : decode cX4_init 16 = .ok (.dup, 1) := by decide +kernel
theorem dX4_init_17 : decode cX4_init 17 = .ok (.iconst 2, 1) := by decide +kernel
theorem dX4_init_18 : decode cX4_init 18 = .ok (.iconst 0, 1) := by decide +kernel
theorem dX4_init_19 : decode cX4_init 19 = .ok (.iastore, 1) := by decide +kernel
theorem dX4_init_20 : decode cX4_init 20 = .ok (.dup, 1) := by decide +kernel
theorem dX4_init_21 : decode cX4_init 21 = .ok (.iconst 3, 1) := by decide +kernel
theorem dX4_init_22 : decode cX4_init 22 = .ok (.iconst 0, 1) := by decide +kernel
theorem dX4_init_23 : decode cX4_init 23 = .ok (.iastore, 1) := by decide +kernel
theorem dX4_init_24 : decode cX4_init 24 = .ok (.dup, 1) := by decide +kernel
theorem dX4_init_25 : decode cX4_init 25 = .ok (.iconst 4, 1) := by decide +kernel
theorem dX4_init_26 : decode cX4_init 26 = .ok (.iconst 2, 1) := by decide +kernel
theorem dX4_init_27 : decode cX4_init 27 = .ok (.iastore, 1) := by decide +kernel
theorem dX4_init_28 : decode cX4_init 28 = .ok (.putfield 9, 3) := by decide +kernel
theorem dX4_init_31 : decode cX4_init 31 = .ok (.return_, 1) := by decide +kernel
theorem dX4_change_0 : decode cX4_change 0 = .ok (.iload_n 1, 1) := by decide +kernel
theorem dX4_change_1 : decode cX4_change 1 = .ok (.iconst 0, 1) := by decide +kernel
theorem dX4_change_2 : decode cX4_change 2 = .ok (.iconst 4, 1) := by decide +kernel
theorem dX4_change_3 : decode cX4_change 3 = .ok (.invokestatic 15, 3) := by decide +kernel
theorem dX4_change_6 : decode cX4_change 6 = .ok (.ifCond .eq 20, 3) := by decide +kernel
theorem dX4_change_9 : decode cX4_change 9 = .ok (.iload_n 2, 1) := by decide +kernel
theorem dX4_change_10 : decode cX4_change 10 = .ok (.getstatic 19, 3) := by decide +kernel
theorem dX4_change_13 : decode cX4_change 13 = .ok (.iload_n 1, 1) := by decide +kernel
theorem dX4_change_14 : decode cX4_change 14 = .ok (.iaload, 1) := by decide +kernel
theorem dX4_change_15 : decode cX4_change 15 = .ok (.getstatic 22, 3) := by decide +kernel
theorem dX4_change_18 : decode cX4_change 18 = .ok (.iload_n 1, 1) := by decide +kernel
theorem dX4_change_19 : decode cX4_change 19 = .ok (.iaload, 1) := by decide +kernel
theorem dX4_change_20 : decode cX4_change 20 = .ok (.invokestatic 15, 3) := by decide +kernel
theorem dX4_change_23 : decode cX4_change 23 = .ok (.ifCond .ne 5, 3) := by decide +kernel
theorem dX4_change_26 : decode cX4_change 26 = .ok (.iconst 0, 1) := by decide +kernel
theorem dX4_change_27 : decode cX4_change 27 = .ok (.ireturn, 1) := by decide +kernel
theorem dX4_change_28 : decode cX4_change 28 = .ok (.aload_n 0, 1) := by decide +kernel
theorem dX4_change_29 : decode cX4_change 29 = .ok (.getfield 9, 3) := by decide +kernel
theorem dX4_change_32 : decode cX4_change 32 = .ok (.iload_n 1, 1) := by decide +kernel
theorem dX4_change_33 : decode cX4_change 33 = .ok (.iload_n 2, 1) := by decide +kernel
theorem dX4_change_34 : decode cX4_change 34 = .ok (.iastore, 1) := by decide +kernel
theorem dX4_change_35 : decode cX4_change 35 = .ok (.iconst 1, 1) := by decide +kernel
theorem dX4_change_36 : decode cX4_change 36 = .ok (.ireturn, 1) := by decide +kernel
theorem dX4_get_0 : decode cX4_get 0 = .ok (.iload_n 1, 1) := by decide +kernel
theorem dX4_get_1 : decode cX4_get 1 = .ok (.iconst 0, 1) := by decide +kernel
theorem dX4_get_2 : decode cX4_get 2 = .ok (.iconst 4, 1) := by decide +kernel
theorem dX4_get_3 : decode cX4_get 3 = .ok (.invokestatic 15, 3) := by decide +kernel
theorem dX4_get_6 : decode cX4_get 6 = .ok (.ifCond .eq 12, 3) := by decide +kernel
theorem dX4_get_9 : decode cX4_get 9 = .ok (.aload_n 0, 1) := by decide +kernel
theorem dX4_get_10 : decode cX4_get 10 = .ok (.getfield 9, 3) := by decide +kernel
theorem dX4_get_13 : decode cX4_get 13 = .ok (.iload_n 1, 1) := by decide +kernel
theorem dX4_get_14 : decode cX4_get 14 = .ok (.iaload, 1) := by decide +kernel
theorem dX4_get_15 : decode cX4_get 15 = .ok (.goto 4, 3) := by decide +kernel
theorem dX4_get_18 : decode cX4_get 18 = .ok (.iconst 0, 1) := by decide +kernel
theorem dX4_get_19 : decode cX4_get 19 = .ok (.ireturn, 1) := by decide +kernel
end
section
theorem dX5_init_0 : decode cX5_init 0 = .ok (.aload_n 0, 1) := by decide +kernel
theorem dX5_init_1 : decode cX5_init 1 = .ok (.invokespecial 5, 3) := by decide +kernel
theorem dX5_init_4 : decode cX5_init 4 = .ok (.aload_n 0, 1) := by decide +kernel
theorem dX5_init_5 : decode cX5_init 5 = .ok (.bipush 27, 2) := by decide +kernel
theorem dX5_init_7 : decode cX5_init 7 = .ok (.newarray .int, 2) := by decide +kernel
theorem dX5_init_9 : decode cX5_init 9 = .ok (.putfield 13, 3) := by decide +kernel
theorem dX5_init_12 : decode cX5_init 12 = .ok (.aload_n 0, 1) := by decide +kernel
theorem dX5_init_13 : decode cX5_init 13 = .ok (.sipush 729, 3) := by decide +kernel
theorem dX5_init_16 : decode cX5_init 16 = .ok (.newarray .int, 2) := by decide +kernel
theorem dX5_init_18 : decode cX5_init 18 = .ok (.putfield 17, 3) := by decide +kernel
theorem dX5_init_21 : decode cX5_init 21 = .ok (.aload_n 0, 1) := by decide +kernel
theorem dX5_init_22 : decode cX5_init 22 = .ok (.bipush 60, 2) := by decide +kernel
theorem dX5_init_24 : decode cX5_init 24 = .ok (.newarray .int, 2) := by decide +kernel
theorem dX5_init_26 : decode cX5_init 26 = .ok (.putfield 22, 3) := by decide +kernel
theorem dX5_init_29 : decode cX5_init 29 = .ok (.aload_n 0, 1) := by decide +kernel
theorem dX5_init_30 : decode cX5_init 30 = .ok (.aload_n 1, 1) := by decide +kernel
theorem dX5_init_31 : decode cX5_init 31 = .ok (.putfield 25, 3) := by decide +kernel
theorem dX5_init_34 : decode cX5_init 34 = .ok (.aload_n 0, 1) := by decide +kernel
theorem dX5_init_35 : decode cX5_init 35 = .ok (.aload_n 2, 1) := by decide +kernel
theorem dX5_init_36 : decode cX5_init 36 = .ok (.putfield 29, 3) := by decide +kernel
theorem dX5_init_39 : decode cX5_init 39 = .ok (.return_, 1) := by decide +kernel
theorem dX5_solve_0 : decode cX5_solve 0 = .ok (.aload_n 0, 1) := by decide +kernel
theorem dX5_solve_1 : decode cX5_solve 1 = .ok (.getfield 25, 3) := by decide +kernel
theorem dX5_solve_4 : decode cX5_solve 4 = .ok (.invokevirtual 33, 3) := by decide +kernel
theorem dX5_solve_7 : decode cX5_solve 7 = .ok (.istore_n 2, 1) := by decide +kernel
theorem dX5_solve_8 : decode cX5_solve 8 = .ok (.iconst 0, 1) := by decide +kernel
theorem dX5_solve_9 : decode cX5_solve 9 = .ok (.istore_n 3, 1) := by decide +kernel
theorem dX5_solve_10 : decode cX5_solve 10 = .ok (.iload_n 3, 1) := by decide +kernel
theorem dX5_solve_11 : decode cX5_solve 11 = .ok (.iload_n 2, 1) := by decide +kernel
theorem dX5_solve_12 : decode cX5_solve 12 = .ok (.if_icmp .ge 44, 3) := by decide +kernel
theorem dX5_solve_15 : decode cX5_solve 15 = .ok (.iload_n 3, 1) := by decide +kernel
theorem dX5_solve_16 : decode cX5_solve 16 = .ok (.bipush 26, 2) := by decide +kernel
theorem dX5_solve_18 : decode cX5_solve 18 = .ok (.if_icmp .ge 38, 3) := by decide +kernel
theorem dX5_solve_21 : decode cX5_solve 21 = .ok (.aload_n 0, 1) := by decide +kernel
theorem dX5_solve_22 : decode cX5_solve 22 = .ok (.getfield 13, 3) := by decide +kernel
theorem dX5_solve_25 : decode cX5_solve 25 = .ok (.iload_n 3, 1) := by decide +kernel
theorem dX5_solve_26 : decode cX5_solve 26 = .ok (.iconst 1, 1) := by decide +kernel
theorem dX5_solve_27 : decode cX5_solve 27 = .ok (.iadd, 1) := by decide +kernel
theorem dX5_solve_28 : decode cX5_solve 28 = .ok (.aload_n 0, 1) := by decide +kernel
theorem dX5_solve_29 : decode cX5_solve 29 = .ok (.getfield 13, 3) := by decide +kernel
theorem dX5_solve_32 : decode cX5_solve 32 = .ok (.iload_n 3, 1) := by decide +kernel
theorem dX5_solve_33 : decode cX5_solve 33 = .ok (.iaload, 1) := by decide +kernel
theorem dX5_solve_34 : decode cX5_solve 34 = .ok (.aload_n 1, 1) := by decide +kernel
theorem dX5_solve_35 : decode cX5_solve 35 = .ok (.aload_n 0, 1) := by decide +kernel
theorem dX5_solve_36 : decode cX5_solve 36 = .ok (.getfield 25, 3) := by decide +kernel
theorem dX5_solve_39 : decode cX5_solve 39 = .ok (.iload_n 3, 1) := by decide +kernel
theorem dX5_solve_40 : decode cX5_solve 40 = .ok (.invokevirtual 37, 3) := by decide +kernel
theorem dX5_solve_43 : decode cX5_solve 43 = .ok (.invokevirtual 41, 3) := by decide +kernel
theorem dX5_solve_46 : decode cX5_solve 46 = .ok (.iadd, 1) := by decide +kernel
theorem dX5_solve_47 : decode cX5_solve 47 = .ok (.iconst 1, 1) := by decide +kernel
theorem dX5_solve_48 : decode cX5_solve 48 = .ok (.iadd, 1) := by decide +kernel
theorem dX5_solve_49 : decode cX5_solve 49 = .ok (.iastore, 1) := by decide +kernel
theorem dX5_solve_50 : decode cX5_solve 50 = .ok (.iinc 3 1, 3) := by decide +kernel
theorem dX5_solve_53 : decode cX5_solve 53 = .ok (.goto (-43), 3) := by decide +kernel
theorem dX5_solve_56 : decode cX5_solve 56 = .ok (.iload_n 2, 1) := by decide +kernel
theorem dX5_solve_57 : decode cX5_solve 57 = .ok (.iconst 1, 1) := by decide +kernel
theorem dX5_solve_58 : decode cX5_solve 58 = .ok (.isub, 1) := by decide +kernel
theorem dX5_solve_59 : decode cX5_solve 59 = .ok (.istore_n 3, 1) := by decide +kernel
theorem dX5_solve_60 : decode cX5_solve 60 = .ok (.iload_n 3, 1) := by decide +kernel
theorem dX5_solve_61 : decode cX5_solve 61 = .ok (.ifCond .lt 63, 3) := by decide +kernel
theorem dX5_solve_64 : decode cX5_solve 64 = .ok (.iload_n 3, 1) := by decide +kernel
theorem dX5_solve_65 : decode cX5_solve 65 = .ok (.iconst 1, 1) := by decide +kernel
theorem dX5_solve_66 : decode cX5_solve 66 = .ok (.iadd, 1) := by decide +kernel
theorem dX5_solve_67 : decode cX5_solve 67 = .ok (.istore 4, 2) := by decide +kernel
theorem dX5_solve_69 : decode cX5_solve 69 = .ok (.iload 4, 2) := by decide +kernel
theorem dX5_solve_71 : decode cX5_solve 71 = .ok (.iload_n 2, 1) := by decide +kernel
theorem dX5_solve_72 : decode cX5_solve 72 = .ok (.if_icmp .gt 46, 3) := by decide +kernel
theorem dX5_solve_75 : decode cX5_solve 75 = .ok (.iload 4, 2) := by decide +kernel
theorem dX5_solve_77 : decode cX5_solve 77 = .ok (.bipush 27, 2) := by decide +kernel
theorem dX5_solve_79 : decode cX5_solve 79 = .ok (.if_icmp .ge 39, 3) := by decide +kernel
theorem dX5_solve_82 : decode cX5_solve 82 = .ok (.aload_n 0, 1) := by decide +kernel
theorem dX5_solve_83 : decode cX5_solve 83 = .ok (.iload_n 3, 1) := by decide +kernel
theorem dX5_solve_84 : decode cX5_solve 84 = .ok (.iload 4, 2) := by decide +kernel
theorem dX5_solve_86 : decode cX5_solve 86 = .ok (.invokevirtual 46, 3) := by decide +kernel
theorem dX5_solve_89 : decode cX5_solve 89 = .ok (.istore 5, 2) := by decide +kernel
theorem dX5_solve_91 : decode cX5_solve 91 = .ok (.aload_n 0, 1) := by decide +kernel
theorem dX5_solve_92 : decode cX5_solve 92 = .ok (.getfield 17, 3) := by decide +kernel
theorem dX5_solve_95 : decode cX5_solve 95 = .ok (.iload_n 3, 1) := by decide +kernel
theorem dX5_solve_96 : decode cX5_solve 96 = .ok (.bipush 27, 2) := by decide +kernel
theorem dX5_solve_98 : decode cX5_solve 98 = .ok (.imul, 1) := by decide +kernel
theorem dX5_solve_99 : decode cX5_solve 99 = .ok (.iload 4, 2) := by decide +kernel
theorem dX5_solve_101 : decode cX5_solve 101 = .ok (.iadd, 1) := by decide +kernel
theorem dX5_solve_102 : decode cX5_solve 102 = .ok (.aload_n 0, 1) := by decide +kernel
theorem dX5_solve_103 : decode cX5_solve 103 = .ok (.iload_n 3, 1) := by decide +kernel
theorem dX5_solve_104 : decode cX5_solve 104 = .ok (.iload 5, 2) := by decide +kernel
theorem dX5_solve_106 : decode cX5_solve 106 = .ok (.iload 4, 2) := by decide +kernel
theorem dX5_solve_108 : decode cX5_solve 108 = .ok (.invokevirtual 50, 3) := by decide +kernel
theorem dX5_solve_111 : decode cX5_solve 111 = .ok (.iastore, 1) := by decide +kernel
theorem dX5_solve_112 : decode cX5_solve 112 = .ok (.iinc 4 1, 3) := by decide +kernel
theorem dX5_solve_115 : decode cX5_solve 115 = .ok (.goto (-46), 3) := by decide +kernel
theorem dX5_solve_118 : decode cX5_solve 118 = .ok (.iinc 3 (-1), 3) := by decide +kernel
theorem dX5_solve_121 : decode cX5_solve 121 = .ok (.goto (-61), 3) := by decide +kernel
theorem dX5_solve_124 : decode cX5_solve 124 = .ok (.aload_n 0, 1) := by decide +kernel
theorem dX5_solve_125 : decode cX5_solve 125 = .ok (.iconst 0, 1) := by decide +kernel
theorem dX5_solve_126 : decode cX5_solve 126 = .ok (.iload_n 2, 1) := by decide +kernel
theorem dX5_solve_127 : decode cX5_solve 127 = .ok (.invokevirtual 54, 3) := by decide +kernel
theorem dX5_solve_130 : decode cX5_solve 130 = .ok (.ireturn, 1) := by decide +kernel
theorem dX5_firstEnd_0 : decode cX5_firstEnd 0 = .ok (.iload_n 1, 1) := by decide +kernel
theorem dX5_firstEnd_1 : decode cX5_firstEnd 1 = .ok (.iconst 1, 1) := by decide +kernel
theorem dX5_firstEnd_2 : decode cX5_firstEnd 2 = .ok (.iadd, 1) := by decide +kernel
theorem dX5_firstEnd_3 : decode cX5_firstEnd 3 = .ok (.istore_n 3, 1) := by decide +kernel
theorem dX5_firstEnd_4 : decode cX5_firstEnd 4 = .ok (.aload_n 0, 1) := by decide +kernel
theorem dX5_firstEnd_5 : decode cX5_firstEnd 5 = .ok (.iload_n 1, 1) := by decide +kernel
theorem dX5_firstEnd_6 : decode cX5_firstEnd 6 = .ok (.iload_n 3, 1) := by decide +kernel
theorem dX5_firstEnd_7 : decode cX5_firstEnd 7 = .ok (.iload_n 2, 1) := by decide +kernel
theorem dX5_firstEnd_8 : decode cX5_firstEnd 8 = .ok (.invokevirtual 50, 3) := by decide +kernel
theorem dX5_firstEnd_11 : decode cX5_firstEnd 11 = .ok (.istore 4, 2) := by decide +kernel
theorem dX5_firstEnd_13 : decode cX5_firstEnd 13 = .ok (.iload_n 1, 1) := by decide +kernel
theorem dX5_firstEnd_14 : decode cX5_firstEnd 14 = .ok (.iconst 2, 1) := by decide +kernel
theorem dX5_firstEnd_15 : decode cX5_firstEnd 15 = .ok (.iadd, 1) := by decide +kernel
theorem dX5_firstEnd_16 : decode cX5_firstEnd 16 = .ok (.istore 5, 2) := by decide +kernel
theorem dX5_firstEnd_18 : decode cX5_firstEnd 18 = .ok (.iload 5, 2) := by decide +kernel
theorem dX5_firstEnd_20 : decode cX5_firstEnd 20 = .ok (.iload_n 2, 1) := by decide +kernel
theorem dX5_firstEnd_21 : decode cX5_firstEnd 21 = .ok (.if_icmp .ge 33, 3) := by decide +kernel
theorem dX5_firstEnd_24 : decode cX5_firstEnd 24 = .ok (.aload_n 0, 1) := by decide +kernel
theorem dX5_firstEnd_25 : decode cX5_firstEnd 25 = .ok (.iload_n 1, 1) := by decide +kernel
theorem dX5_firstEnd_26 : decode cX5_firstEnd 26 = .ok (.iload 5, 2) := by decide +kernel
theorem dX5_firstEnd_28 : decode cX5_firstEnd 28 = .ok (.iload_n 2, 1) := by decide +kernel
theorem dX5_firstEnd_29 : decode cX5_firstEnd 29 = .ok (.invokevirtual 50, 3) := by decide +kernel
theorem dX5_firstEnd_32 : decode cX5_firstEnd 32 = .ok (.istore 6, 2) := by decide +kernel
theorem dX5_firstEnd_34 : decode cX5_firstEnd 34 = .ok (.iload 6, 2) := by decide +kernel
theorem dX5_firstEnd_36 : decode cX5_firstEnd 36 = .ok (.iload 4, 2) := by decide +kernel
theorem dX5_firstEnd_38 : decode cX5_firstEnd 38 = .ok (.if_icmp .ge 10, 3) := by decide +kernel
theorem dX5_firstEnd_41 : decode cX5_firstEnd 41 = .ok (.iload 5, 2) := by decide +kernel
theorem dX5_firstEnd_43 : decode cX5_firstEnd 43 = .ok (.istore_n 3, 1) := by decide +kernel
theorem dX5_firstEnd_44 : decode cX5_firstEnd 44 = .ok (.iload 6, 2) := by decide +kernel
theorem dX5_firstEnd_46 : decode cX5_firstEnd 46 = .ok (.istore 4, 2) := by decide +kernel
theorem dX5_firstEnd_48 : decode cX5_firstEnd 48 = .ok (.iinc 5 1, 3) := by decide +kernel
theorem dX5_firstEnd_51 : decode cX5_firstEnd 51 = .ok (.goto (-33), 3) := by decide +kernel
theorem dX5_firstEnd_54 : decode cX5_firstEnd 54 = .ok (.iload_n 3, 1) := by decide +kernel
theorem dX5_firstEnd_55 : decode cX5_firstEnd 55 = .ok (.ireturn, 1) := by decide +kernel
theorem dX5_costWith_0 : decode cX5_costWith 0 = .ok (.iload_n 2, 1) := by decide +kernel
theorem dX5_costWith_1 : decode cX5_costWith 1 = .ok (.iload_n 1, 1) := by decide +kernel
theorem dX5_costWith_2 : decode cX5_costWith 2 = .ok (.isub, 1) := by decide +kernel
theorem dX5_costWith_3 : decode cX5_costWith 3 = .ok (.iconst 1, 1) := by decide +kernel
theorem dX5_costWith_4 : decode cX5_costWith 4 = .ok (.if_icmp .le 12, 3) := by decide +kernel
theorem dX5_costWith_7 : decode cX5_costWith 7 = .ok (.aload_n 0, 1) := by decide +kernel
theorem dX5_costWith_8 : decode cX5_costWith 8 = .ok (.iload_n 1, 1) := by decide +kernel
theorem dX5_costWith_9 : decode cX5_costWith 9 = .ok (.iload_n 2, 1) := by decide +kernel
theorem dX5_costWith_10 : decode cX5_costWith 10 = .ok (.invokevirtual 54, 3) := by decide +kernel
theorem dX5_costWith_13 : decode cX5_costWith 13 = .ok (.goto 4, 3) := by decide +kernel
theorem dX5_costWith_16 : decode cX5_costWith 16 = .ok (.iconst 0, 1) := by decide +kernel
theorem dX5_costWith_17 : decode cX5_costWith 17 = .ok (.istore 4, 2) := by decide +kernel
theorem dX5_costWith_19 : decode cX5_costWith 19 = .ok (.aload_n 0, 1) := by decide +kernel
theorem dX5_costWith_20 : decode cX5_costWith 20 = .ok (.getfield 29, 3) := by decide +kernel
theorem dX5_costWith_23 : decode cX5_costWith 23 = .ok (.iconst 0, 1) := by decide +kernel
theorem dX5_costWith_24 : decode cX5_costWith 24 = .ok (.invokevirtual 57, 3) := by decide +kernel
theorem dX5_costWith_27 : decode cX5_costWith 27 = .ok (.aload_n 0, 1) := by decide +kernel
theorem dX5_costWith_28 : decode cX5_costWith 28 = .ok (.iload_n 1, 1) := by decide +kernel
theorem dX5_costWith_29 : decode cX5_costWith 29 = .ok (.iload_n 3, 1) := by decide +kernel
theorem dX5_costWith_30 : decode cX5_costWith 30 = .ok (.invokevirtual 62, 3) := by decide +kernel
theorem dX5_costWith_33 : decode cX5_costWith 33 = .ok (.imul, 1) := by decide +kernel
theorem dX5_costWith_34 : decode cX5_costWith 34 = .ok (.aload_n 0, 1) := by decide +kernel
theorem dX5_costWith_35 : decode cX5_costWith 35 = .ok (.getfield 29, 3) := by decide +kernel
theorem dX5_costWith_38 : decode cX5_costWith 38 = .ok (.iconst 4, 1) := by decide +kernel
theorem dX5_costWith_39 : decode cX5_costWith 39 = .ok (.invokevirtual 57, 3) := by decide +kernel
theorem dX5_costWith_42 : decode cX5_costWith 42 = .ok (.aload_n 0, 1) := by decide +kernel
theorem dX5_costWith_43 : decode cX5_costWith 43 = .ok (.iload_n 1, 1) := by decide +kernel
theorem dX5_costWith_44 : decode cX5_costWith 44 = .ok (.iload_n 2, 1) := by decide +kernel
theorem dX5_costWith_45 : decode cX5_costWith 45 = .ok (.invokevirtual 62, 3) := by decide +kernel
theorem dX5_costWith_48 : decode cX5_costWith 48 = .ok (.imul, 1) := by decide +kernel
theorem dX5_costWith_49 : decode cX5_costWith 49 = .ok (.iadd, 1) := by decide +kernel
theorem dX5_costWith_50 : decode cX5_costWith 50 = .ok (.iload 4, 2) := by decide +kernel
theorem dX5_costWith_52 : decode cX5_costWith 52 = .ok (.iadd, 1) := by decide +kernel
theorem dX5_costWith_53 : decode cX5_costWith 53 = .ok (.aload_n 0, 1) := by decide +kernel
theorem dX5_costWith_54 : decode cX5_costWith 54 = .ok (.iload_n 2, 1) := by decide +kernel
theorem dX5_costWith_55 : decode cX5_costWith 55 = .ok (.iload_n 3, 1) := by decide +kernel
theorem dX5_costWith_56 : decode cX5_costWith 56 = .ok (.invokevirtual 54, 3) := by decide +kernel
theorem dX5_costWith_59 : decode cX5_costWith 59 = .ok (.iadd, 1) := by decide +kernel
theorem dX5_costWith_60 : decode cX5_costWith 60 = .ok (.ireturn, 1) := by decide +kernel
theorem dX5_sumOf_0 : decode cX5_sumOf 0 = .ok (.iload_n 1, 1) := by decide +kernel
theorem dX5_sumOf_1 : decode cX5_sumOf 1 = .ok (.iload_n 2, 1) := by decide +kernel
theorem dX5_sumOf_2 : decode cX5_sumOf 2 = .ok (.invokestatic 65, 3) := by decide +kernel
theorem dX5_sumOf_5 : decode cX5_sumOf 5 = .ok (.ifCond .eq 19, 3) := by decide +kernel
theorem dX5_sumOf_8 : decode cX5_sumOf 8 = .ok (.aload_n 0, 1) := by decide +kernel
theorem dX5_sumOf_9 : decode cX5_sumOf 9 = .ok (.getfield 13, 3) := by decide +kernel
theorem dX5_sumOf_12 : decode cX5_sumOf 12 = .ok (.iload_n 2, 1) := by decide +kernel
theorem dX5_sumOf_13 : decode cX5_sumOf 13 = .ok (.iaload, 1) := by decide +kernel
theorem dX5_sumOf_14 : decode cX5_sumOf 14 = .ok (.aload_n 0, 1) := by decide +kernel
theorem dX5_sumOf_15 : decode cX5_sumOf 15 = .ok (.getfield 13, 3) := by decide +kernel
theorem dX5_sumOf_18 : decode cX5_sumOf 18 = .ok (.iload_n 1, 1) := by decide +kernel
theorem dX5_sumOf_19 : decode cX5_sumOf 19 = .ok (.iaload, 1) := by decide +kernel
theorem dX5_sumOf_20 : decode cX5_sumOf 20 = .ok (.isub, 1) := by decide +kernel
theorem dX5_sumOf_21 : decode cX5_sumOf 21 = .ok (.goto 4, 3) := by decide +kernel
theorem dX5_sumOf_24 : decode cX5_sumOf 24 = .ok (.iconst 0, 1) := by decide +kernel
theorem dX5_sumOf_25 : decode cX5_sumOf 25 = .ok (.ireturn, 1) := by decide +kernel
theorem dX5_leastOf_0 : decode cX5_leastOf 0 = .ok (.iload_n 1, 1) := by decide +kernel
theorem dX5_leastOf_1 : decode cX5_leastOf 1 = .ok (.iload_n 2, 1) := by decide +kernel
theorem dX5_leastOf_2 : decode cX5_leastOf 2 = .ok (.invokestatic 65, 3) := by decide +kernel
theorem dX5_leastOf_5 : decode cX5_leastOf 5 = .ok (.ifCond .eq 17, 3) := by decide +kernel
theorem dX5_leastOf_8 : decode cX5_leastOf 8 = .ok (.aload_n 0, 1) := by decide +kernel
theorem dX5_leastOf_9 : decode cX5_leastOf 9 = .ok (.getfield 17, 3) := by decide +kernel
theorem dX5_leastOf_12 : decode cX5_leastOf 12 = .ok (.iload_n 1, 1) := by decide +kernel
theorem dX5_leastOf_13 : decode cX5_leastOf 13 = .ok (.bipush 27, 2) := by decide +kernel
theorem dX5_leastOf_15 : decode cX5_leastOf 15 = .ok (.imul, 1) := by decide +kernel
theorem dX5_leastOf_16 : decode cX5_leastOf 16 = .ok (.iload_n 2, 1) := by decide +kernel
theorem dX5_leastOf_17 : decode cX5_leastOf 17 = .ok (.iadd, 1) := by decide +kernel
theorem dX5_leastOf_18 : decode cX5_leastOf 18 = .ok (.iaload, 1) := by decide +kernel
theorem dX5_leastOf_19 : decode cX5_leastOf 19 = .ok (.goto 4, 3) := by decide +kernel
theorem dX5_leastOf_22 : decode cX5_leastOf 22 = .ok (.iconst 0, 1) := by decide +kernel
theorem dX5_leastOf_23 : decode cX5_leastOf 23 = .ok (.ireturn, 1) := by decide +kernel
theorem dX5_isPart_0 : decode cX5_isPart 0 = .ok (.iload_n 0, 1) := by decide +kernel
theorem dX5_isPart_1 : decode cX5_isPart 1 = .ok (.ifCond .lt 18, 3) := by decide +kernel
theorem dX5_isPart_4 : decode cX5_isPart 4 = .ok (.iload_n 0, 1) := by decide +kernel
theorem dX5_isPart_5 : decode cX5_isPart 5 = .ok (.iload_n 1, 1) := by decide +kernel
theorem dX5_isPart_6 : decode cX5_isPart 6 = .ok (.if_icmp .ge 13, 3) := by decide +kernel
theorem dX5_isPart_9 : decode cX5_isPart 9 = .ok (.iload_n 1, 1) := by decide +kernel
theorem dX5_isPart_10 : decode cX5_isPart 10 = .ok (.bipush 27, 2) := by decide +kernel
theorem dX5_isPart_12 : decode cX5_isPart 12 = .ok (.if_icmp .ge 7, 3) := by decide +kernel
theorem dX5_isPart_15 : decode cX5_isPart 15 = .ok (.iconst 1, 1) := by decide +kernel
theorem dX5_isPart_16 : decode cX5_isPart 16 = .ok (.goto 4, 3) := by decide +kernel
theorem dX5_isPart_19 : decode cX5_isPart 19 = .ok (.iconst 0, 1) := by decide +kernel
theorem dX5_isPart_20 : decode cX5_isPart 20 = .ok (.ireturn, 1) := by decide +kernel
theorem dX5_build_0 : decode cX5_build 0 = .ok (.aload_n 0, 1) := by decide +kernel
theorem dX5_build_1 : decode cX5_build 1 = .ok (.getfield 25, 3) := by decide +kernel
theorem dX5_build_4 : decode cX5_build 4 = .ok (.invokevirtual 33, 3) := by decide +kernel
theorem dX5_build_7 : decode cX5_build 7 = .ok (.istore_n 2, 1) := by decide +kernel
theorem dX5_build_8 : decode cX5_build 8 = .ok (.iconst 0, 1) := by decide +kernel
theorem dX5_build_9 : decode cX5_build 9 = .ok (.istore_n 3, 1) := by decide +kernel
theorem dX5_build_10 : decode cX5_build 10 = .ok (.iconst 0, 1) := by decide +kernel
theorem dX5_build_11 : decode cX5_build 11 = .ok (.istore 4, 2) := by decide +kernel
theorem dX5_build_13 : decode cX5_build 13 = .ok (.aload_n 0, 1) := by decide +kernel
theorem dX5_build_14 : decode cX5_build 14 = .ok (.getfield 22, 3) := by decide +kernel
theorem dX5_build_17 : decode cX5_build 17 = .ok (.iconst 0, 1) := by decide +kernel
theorem dX5_build_18 : decode cX5_build 18 = .ok (.iload_n 2, 1) := by decide +kernel
theorem dX5_build_19 : decode cX5_build 19 = .ok (.iastore, 1) := by decide +kernel
theorem dX5_build_20 : decode cX5_build 20 = .ok (.iconst 0, 1) := by decide +kernel
theorem dX5_build_21 : decode cX5_build 21 = .ok (.istore 5, 2) := by decide +kernel
theorem dX5_build_23 : decode cX5_build 23 = .ok (.iload 5, 2) := by decide +kernel
theorem dX5_build_25 : decode cX5_build 25 = .ok (.bipush 60, 2) := by decide +kernel
theorem dX5_build_27 : decode cX5_build 27 = .ok (.if_icmp .ge 94, 3) := by decide +kernel
theorem dX5_build_30 : decode cX5_build 30 = .ok (.iload_n 3, 1) := by decide +kernel
theorem dX5_build_31 : decode cX5_build 31 = .ok (.iload_n 2, 1) := by decide +kernel
theorem dX5_build_32 : decode cX5_build 32 = .ok (.if_icmp .ge 89, 3) := by decide +kernel
theorem dX5_build_35 : decode cX5_build 35 = .ok (.aload_n 0, 1) := by decide +kernel
theorem dX5_build_36 : decode cX5_build 36 = .ok (.iload_n 3, 1) := by decide +kernel
theorem dX5_build_37 : decode cX5_build 37 = .ok (.iload 4, 2) := by decide +kernel
theorem dX5_build_39 : decode cX5_build 39 = .ok (.aload_n 1, 1) := by decide +kernel
theorem dX5_build_40 : decode cX5_build 40 = .ok (.invokevirtual 69, 3) := by decide +kernel
theorem dX5_build_43 : decode cX5_build 43 = .ok (.istore 4, 2) := by decide +kernel
theorem dX5_build_45 : decode cX5_build 45 = .ok (.aload_n 0, 1) := by decide +kernel
theorem dX5_build_46 : decode cX5_build 46 = .ok (.iload_n 3, 1) := by decide +kernel
theorem dX5_build_47 : decode cX5_build 47 = .ok (.aload_n 0, 1) := by decide +kernel
theorem dX5_build_48 : decode cX5_build 48 = .ok (.getfield 22, 3) := by decide +kernel
theorem dX5_build_51 : decode cX5_build 51 = .ok (.iload 4, 2) := by decide +kernel
theorem dX5_build_53 : decode cX5_build 53 = .ok (.iaload, 1) := by decide +kernel
theorem dX5_build_54 : decode cX5_build 54 = .ok (.invokevirtual 46, 3) := by decide +kernel
theorem dX5_build_57 : decode cX5_build 57 = .ok (.istore 6, 2) := by decide +kernel
theorem dX5_build_59 : decode cX5_build 59 = .ok (.iload 6, 2) := by decide +kernel
theorem dX5_build_61 : decode cX5_build 61 = .ok (.iload_n 3, 1) := by decide +kernel
theorem dX5_build_62 : decode cX5_build 62 = .ok (.isub, 1) := by decide +kernel
theorem dX5_build_63 : decode cX5_build 63 = .ok (.iconst 1, 1) := by decide +kernel
theorem dX5_build_64 : decode cX5_build 64 = .ok (.if_icmp .ne 25, 3) := by decide +kernel
theorem dX5_build_67 : decode cX5_build 67 = .ok (.aload_n 1, 1) := by decide +kernel
theorem dX5_build_68 : decode cX5_build 68 = .ok (.iload 4, 2) := by decide +kernel
theorem dX5_build_70 : decode cX5_build 70 = .ok (.iconst 1, 1) := by decide +kernel
theorem dX5_build_71 : decode cX5_build 71 = .ok (.aload_n 0, 1) := by decide +kernel
theorem dX5_build_72 : decode cX5_build 72 = .ok (.getfield 25, 3) := by decide +kernel
theorem dX5_build_75 : decode cX5_build 75 = .ok (.iload_n 3, 1) := by decide +kernel
theorem dX5_build_76 : decode cX5_build 76 = .ok (.invokevirtual 37, 3) := by decide +kernel
theorem dX5_build_79 : decode cX5_build 79 = .ok (.invokevirtual 73, 3) := by decide +kernel
theorem dX5_build_82 : decode cX5_build 82 = .ok (.pop, 1) := by decide +kernel
theorem dX5_build_83 : decode cX5_build 83 = .ok (.iload 6, 2) := by decide +kernel
theorem dX5_build_85 : decode cX5_build 85 = .ok (.istore_n 3, 1) := by decide +kernel
theorem dX5_build_86 : decode cX5_build 86 = .ok (.goto 29, 3) := by decide +kernel
theorem dX5_build_89 : decode cX5_build 89 = .ok (.aload_n 1, 1) := by decide +kernel
theorem dX5_build_90 : decode cX5_build 90 = .ok (.iload 4, 2) := by decide +kernel
theorem dX5_build_92 : decode cX5_build 92 = .ok (.iconst 0, 1) := by decide +kernel
theorem dX5_build_93 : decode cX5_build 93 = .ok (.iconst (-1), 1) := by decide +kernel
theorem dX5_build_94 : decode cX5_build 94 = .ok (.invokevirtual 73, 3) := by decide +kernel
theorem dX5_build_97 : decode cX5_build 97 = .ok (.istore 4, 2) := by decide +kernel
theorem dX5_build_99 : decode cX5_build 99 = .ok (.iload 4, 2) := by decide +kernel
theorem dX5_build_101 : decode cX5_build 101 = .ok (.iconst (-1), 1) := by decide +kernel
theorem dX5_build_102 : decode cX5_build 102 = .ok (.if_icmp .ne 4, 3) := by decide +kernel
theorem dX5_build_105 : decode cX5_build 105 = .ok (.return_, 1) := by decide +kernel
theorem dX5_build_106 : decode cX5_build 106 = .ok (.aload_n 0, 1) := by decide +kernel
theorem dX5_build_107 : decode cX5_build 107 = .ok (.getfield 22, 3) := by decide +kernel
theorem dX5_build_110 : decode cX5_build 110 = .ok (.iload 4, 2) := by decide +kernel
theorem dX5_build_112 : decode cX5_build 112 = .ok (.iload 6, 2) := by decide +kernel
theorem dX5_build_114 : decode cX5_build 114 = .ok (.iastore, 1) := by decide +kernel
theorem dX5_build_115 : decode cX5_build 115 = .ok (.iinc 5 1, 3) := by decide +kernel
theorem dX5_build_118 : decode cX5_build 118 = .ok (.goto (-95), 3) := by decide +kernel
theorem dX5_build_121 : decode cX5_build 121 = .ok (.return_, 1) := by decide +kernel
theorem dX5_openAt_0 : decode cX5_openAt 0 = .ok (.iload_n 2, 1) := by decide +kernel
theorem dX5_openAt_1 : decode cX5_openAt 1 = .ok (.istore 4, 2) := by decide +kernel
theorem dX5_openAt_3 : decode cX5_openAt 3 = .ok (.iconst 0, 1) := by decide +kernel
theorem dX5_openAt_4 : decode cX5_openAt 4 = .ok (.istore 5, 2) := by decide +kernel
theorem dX5_openAt_6 : decode cX5_openAt 6 = .ok (.iload 5, 2) := by decide +kernel
theorem dX5_openAt_8 : decode cX5_openAt 8 = .ok (.bipush 60, 2) := by decide +kernel
theorem dX5_openAt_10 : decode cX5_openAt 10 = .ok (.if_icmp .ge 33, 3) := by decide +kernel
theorem dX5_openAt_13 : decode cX5_openAt 13 = .ok (.iload 4, 2) := by decide +kernel
theorem dX5_openAt_15 : decode cX5_openAt 15 = .ok (.ifCond .le 28, 3) := by decide +kernel
theorem dX5_openAt_18 : decode cX5_openAt 18 = .ok (.aload_n 0, 1) := by decide +kernel
theorem dX5_openAt_19 : decode cX5_openAt 19 = .ok (.getfield 22, 3) := by decide +kernel
theorem dX5_openAt_22 : decode cX5_openAt 22 = .ok (.iload 4, 2) := by decide +kernel
theorem dX5_openAt_24 : decode cX5_openAt 24 = .ok (.iaload, 1) := by decide +kernel
theorem dX5_openAt_25 : decode cX5_openAt 25 = .ok (.iload_n 1, 1) := by decide +kernel
theorem dX5_openAt_26 : decode cX5_openAt 26 = .ok (.if_icmp .gt 17, 3) := by decide +kernel
theorem dX5_openAt_29 : decode cX5_openAt 29 = .ok (.aload_n 3, 1) := by decide +kernel
theorem dX5_openAt_30 : decode cX5_openAt 30 = .ok (.iload 4, 2) := by decide +kernel
theorem dX5_openAt_32 : decode cX5_openAt 32 = .ok (.invokevirtual 76, 3) := by decide +kernel
theorem dX5_openAt_35 : decode cX5_openAt 35 = .ok (.istore 4, 2) := by decide +kernel
theorem dX5_openAt_37 : decode cX5_openAt 37 = .ok (.iinc 5 1, 3) := by decide +kernel
theorem dX5_openAt_40 : decode cX5_openAt 40 = .ok (.goto (-34), 3) := by decide +kernel
theorem dX5_openAt_43 : decode cX5_openAt 43 = .ok (.iload 4, 2) := by decide +kernel
theorem dX5_openAt_45 : decode cX5_openAt 45 = .ok (.iconst 0, 1) := by decide +kernel
theorem dX5_openAt_46 : decode cX5_openAt 46 = .ok (.invokestatic 79, 3) := by decide +kernel
theorem dX5_openAt_49 : decode cX5_openAt 49 = .ok (.ireturn, 1) := by decide +kernel
theorem dX6_init_0 : decode cX6_init 0 = .ok (.aload_n 0, 1) := by decide +kernel
theorem dX6_init_1 : decode cX6_init 1 = .ok (.invokespecial 3, 3) := by decide +kernel
theorem dX6_init_4 : decode cX6_init 4 = .ok (.aload_n 0, 1) := by decide +kernel
theorem dX6_init_5 : decode cX6_init 5 = .ok (.bipush 26, 2) := by decide +kernel
theorem dX6_init_7 : decode cX6_init 7 = .ok (.newarray .int, 2) := by decide +kernel
theorem dX6_init_9 : decode cX6_init 9 = .ok (.putfield 9, 3) := by decide +kernel
theorem dX6_init_12 : decode cX6_init 12 = .ok (.aload_n 0, 1) := by decide +kernel
theorem dX6_init_13 : decode cX6_init 13 = .ok (.bipush 26, 2) := by decide +kernel
theorem dX6_init_15 : decode cX6_init 15 = .ok (.newarray .int, 2) := by decide +kernel
theorem dX6_init_17 : decode cX6_init 17 = .ok (.putfield 15, 3) := by decide +kernel
theorem dX6_init_20 : decode cX6_init 20 = .ok (.aload_n 0, 1) := by decide +kernel
theorem dX6_init_21 : decode cX6_init 21 = .ok (.aload_n 1, 1) := by decide +kernel
theorem dX6_init_22 : decode cX6_init 22 = .ok (.putfield 18, 3) := by decide +kernel
theorem dX6_init_25 : decode cX6_init 25 = .ok (.aload_n 0, 1) := by decide +kernel
theorem dX6_init_26 : decode cX6_init 26 = .ok (.aload_n 2, 1) := by decide +kernel
theorem dX6_init_27 : decode cX6_init 27 = .ok (.putfield 22, 3) := by decide +kernel
theorem dX6_init_30 : decode cX6_init 30 = .ok (.return_, 1) := by decide +kernel
theorem dX6_change_0 : decode cX6_change 0 = .ok (.iload_n 1, 1) := by decide +kernel
theorem dX6_change_1 : decode cX6_change 1 = .ok (.invokestatic 26, 3) := by decide +kernel
theorem dX6_change_4 : decode cX6_change 4 = .ok (.ifCond .eq 14, 3) := by decide +kernel
theorem dX6_change_7 : decode cX6_change 7 = .ok (.iload_n 2, 1) := by decide +kernel
theorem dX6_change_8 : decode cX6_change 8 = .ok (.iconst 0, 1) := by decide +kernel
theorem dX6_change_9 : decode cX6_change 9 = .ok (.sipush 1000, 3) := by decide +kernel
theorem dX6_change_12 : decode cX6_change 12 = .ok (.invokestatic 30, 3) := by decide +kernel
theorem dX6_change_15 : decode cX6_change 15 = .ok (.ifCond .ne 5, 3) := by decide +kernel
theorem dX6_change_18 : decode cX6_change 18 = .ok (.iconst 0, 1) := by decide +kernel
theorem dX6_change_19 : decode cX6_change 19 = .ok (.ireturn, 1) := by decide +kernel
theorem dX6_change_20 : decode cX6_change 20 = .ok (.aload_n 0, 1) := by decide +kernel
theorem dX6_change_21 : decode cX6_change 21 = .ok (.getfield 9, 3) := by decide +kernel
theorem dX6_change_24 : decode cX6_change 24 = .ok (.iload_n 1, 1) := by decide +kernel
theorem dX6_change_25 : decode cX6_change 25 = .ok (.bipush 97, 2) := by decide +kernel
theorem dX6_change_27 : decode cX6_change 27 = .ok (.isub, 1) := by decide +kernel
theorem dX6_change_28 : decode cX6_change 28 = .ok (.iload_n 2, 1) := by decide +kernel
theorem dX6_change_29 : decode cX6_change 29 = .ok (.iastore, 1) := by decide +kernel
theorem dX6_change_30 : decode cX6_change 30 = .ok (.iconst 1, 1) := by decide +kernel
theorem dX6_change_31 : decode cX6_change 31 = .ok (.ireturn, 1) := by decide +kernel
theorem dX6_shareOf_0 : decode cX6_shareOf 0 = .ok (.iload_n 1, 1) := by decide +kernel
theorem dX6_shareOf_1 : decode cX6_shareOf 1 = .ok (.invokestatic 26, 3) := by decide +kernel
theorem dX6_shareOf_4 : decode cX6_shareOf 4 = .ok (.ifCond .eq 15, 3) := by decide +kernel
theorem dX6_shareOf_7 : decode cX6_shareOf 7 = .ok (.aload_n 0, 1) := by decide +kernel
theorem dX6_shareOf_8 : decode cX6_shareOf 8 = .ok (.getfield 9, 3) := by decide +kernel
theorem dX6_shareOf_11 : decode cX6_shareOf 11 = .ok (.iload_n 1, 1) := by decide +kernel
theorem dX6_shareOf_12 : decode cX6_shareOf 12 = .ok (.bipush 97, 2) := by decide +kernel
theorem dX6_shareOf_14 : decode cX6_shareOf 14 = .ok (.isub, 1) := by decide +kernel
theorem dX6_shareOf_15 : decode cX6_shareOf 15 = .ok (.iaload, 1) := by decide +kernel
theorem dX6_shareOf_16 : decode cX6_shareOf 16 = .ok (.goto 4, 3) := by decide +kernel
theorem dX6_shareOf_19 : decode cX6_shareOf 19 = .ok (.iconst 0, 1) := by decide +kernel
theorem dX6_shareOf_20 : decode cX6_shareOf 20 = .ok (.ireturn, 1) := by decide +kernel
theorem dX6_costOf_0 : decode cX6_costOf 0 = .ok (.aload_n 0, 1) := by decide +kernel
theorem dX6_costOf_1 : decode cX6_costOf 1 = .ok (.getfield 18, 3) := by decide +kernel
theorem dX6_costOf_4 : decode cX6_costOf 4 = .ok (.iload_n 1, 1) := by decide +kernel
theorem dX6_costOf_5 : decode cX6_costOf 5 = .ok (.invokevirtual 34, 3) := by decide +kernel
theorem dX6_costOf_8 : decode cX6_costOf 8 = .ok (.iconst (-1), 1) := by decide +kernel
theorem dX6_costOf_9 : decode cX6_costOf 9 = .ok (.if_icmp .ne 5, 3) := by decide +kernel
theorem dX6_costOf_12 : decode cX6_costOf 12 = .ok (.iconst (-1), 1) := by decide +kernel
theorem dX6_costOf_13 : decode cX6_costOf 13 = .ok (.ireturn, 1) := by decide +kernel
theorem dX6_costOf_14 : decode cX6_costOf 14 = .ok (.iconst 0, 1) := by decide +kernel
theorem dX6_costOf_15 : decode cX6_costOf 15 = .ok (.istore_n 2, 1) := by decide +kernel
theorem dX6_costOf_16 : decode cX6_costOf 16 = .ok (.iload_n 1, 1) := by decide +kernel
theorem dX6_costOf_17 : decode cX6_costOf 17 = .ok (.istore_n 3, 1) := by decide +kernel
theorem dX6_costOf_18 : decode cX6_costOf 18 = .ok (.iconst 0, 1) := by decide +kernel
theorem dX6_costOf_19 : decode cX6_costOf 19 = .ok (.istore 4, 2) := by decide +kernel
theorem dX6_costOf_21 : decode cX6_costOf 21 = .ok (.iload 4, 2) := by decide +kernel
theorem dX6_costOf_23 : decode cX6_costOf 23 = .ok (.bipush 60, 2) := by decide +kernel
theorem dX6_costOf_25 : decode cX6_costOf 25 = .ok (.if_icmp .ge 51, 3) := by decide +kernel
theorem dX6_costOf_28 : decode cX6_costOf 28 = .ok (.iload_n 3, 1) := by decide +kernel
theorem dX6_costOf_29 : decode cX6_costOf 29 = .ok (.ifCond .le 47, 3) := by decide +kernel
theorem dX6_costOf_32 : decode cX6_costOf 32 = .ok (.iload_n 2, 1) := by decide +kernel
theorem dX6_costOf_33 : decode cX6_costOf 33 = .ok (.aload_n 0, 1) := by decide +kernel
theorem dX6_costOf_34 : decode cX6_costOf 34 = .ok (.getfield 22, 3) := by decide +kernel
theorem dX6_costOf_37 : decode cX6_costOf 37 = .ok (.iconst 0, 1) := by decide +kernel
theorem dX6_costOf_38 : decode cX6_costOf 38 = .ok (.invokevirtual 40, 3) := by decide +kernel
theorem dX6_costOf_41 : decode cX6_costOf 41 = .ok (.aload_n 0, 1) := by decide +kernel
theorem dX6_costOf_42 : decode cX6_costOf 42 = .ok (.getfield 18, 3) := by decide +kernel
theorem dX6_costOf_45 : decode cX6_costOf 45 = .ok (.iload_n 3, 1) := by decide +kernel
theorem dX6_costOf_46 : decode cX6_costOf 46 = .ok (.invokevirtual 34, 3) := by decide +kernel
theorem dX6_costOf_49 : decode cX6_costOf 49 = .ok (.imul, 1) := by decide +kernel
theorem dX6_costOf_50 : decode cX6_costOf 50 = .ok (.aload_n 0, 1) := by decide +kernel
theorem dX6_costOf_51 : decode cX6_costOf 51 = .ok (.getfield 22, 3) := by decide +kernel
theorem dX6_costOf_54 : decode cX6_costOf 54 = .ok (.iconst 4, 1) := by decide +kernel
theorem dX6_costOf_55 : decode cX6_costOf 55 = .ok (.invokevirtual 40, 3) := by decide +kernel
theorem dX6_costOf_58 : decode cX6_costOf 58 = .ok (.iadd, 1) := by decide +kernel
theorem dX6_costOf_59 : decode cX6_costOf 59 = .ok (.iadd, 1) := by decide +kernel
theorem dX6_costOf_60 : decode cX6_costOf 60 = .ok (.istore_n 2, 1) := by decide +kernel
theorem dX6_costOf_61 : decode cX6_costOf 61 = .ok (.aload_n 0, 1) := by decide +kernel
theorem dX6_costOf_62 : decode cX6_costOf 62 = .ok (.getfield 18, 3) := by decide +kernel
theorem dX6_costOf_65 : decode cX6_costOf 65 = .ok (.iload_n 3, 1) := by decide +kernel
theorem dX6_costOf_66 : decode cX6_costOf 66 = .ok (.invokevirtual 45, 3) := by decide +kernel
theorem dX6_costOf_69 : decode cX6_costOf 69 = .ok (.istore_n 3, 1) := by decide +kernel
theorem dX6_costOf_70 : decode cX6_costOf 70 = .ok (.iinc 4 1, 3) := by decide +kernel
theorem dX6_costOf_73 : decode cX6_costOf 73 = .ok (.goto (-52), 3) := by decide +kernel
theorem dX6_costOf_76 : decode cX6_costOf 76 = .ok (.iload_n 2, 1) := by decide +kernel
theorem dX6_costOf_77 : decode cX6_costOf 77 = .ok (.ireturn, 1) := by decide +kernel
theorem dX6_meanPart_0 : decode cX6_meanPart 0 = .ok (.iload_n 1, 1) := by decide +kernel
theorem dX6_meanPart_1 : decode cX6_meanPart 1 = .ok (.iconst 0, 1) := by decide +kernel
theorem dX6_meanPart_2 : decode cX6_meanPart 2 = .ok (.iconst 1, 1) := by decide +kernel
theorem dX6_meanPart_3 : decode cX6_meanPart 3 = .ok (.invokestatic 30, 3) := by decide +kernel
theorem dX6_meanPart_6 : decode cX6_meanPart 6 = .ok (.ifCond .ne 7, 3) := by decide +kernel
theorem dX6_meanPart_9 : decode cX6_meanPart 9 = .ok (.ldc2_w 48, 3) := by decide +kernel
theorem dX6_meanPart_12 : decode cX6_meanPart 12 = .ok (.lreturn, 1) := by decide +kernel
theorem dX6_meanPart_13 : decode cX6_meanPart 13 = .ok (.aload_n 0, 1) := by decide +kernel
theorem dX6_meanPart_14 : decode cX6_meanPart 14 = .ok (.invokevirtual 50, 3) := by decide +kernel
theorem dX6_meanPart_17 : decode cX6_meanPart 17 = .ok (.lconst 0, 1) := by decide +kernel
theorem dX6_meanPart_18 : decode cX6_meanPart 18 = .ok (.lstore_n 2, 1) := by decide +kernel
theorem dX6_meanPart_19 : decode cX6_meanPart 19 = .ok (.lconst 0, 1) := by decide +kernel
theorem dX6_meanPart_20 : decode cX6_meanPart 20 = .ok (.lstore 4, 2) := by decide +kernel
theorem dX6_meanPart_22 : decode cX6_meanPart 22 = .ok (.iconst 0, 1) := by decide +kernel
theorem dX6_meanPart_23 : decode cX6_meanPart 23 = .ok (.istore 6, 2) := by decide +kernel
theorem dX6_meanPart_25 : decode cX6_meanPart 25 = .ok (.iload 6, 2) := by decide +kernel
theorem dX6_meanPart_27 : decode cX6_meanPart 27 = .ok (.bipush 26, 2) := by decide +kernel
theorem dX6_meanPart_29 : decode cX6_meanPart 29 = .ok (.if_icmp .ge 67, 3) := by decide +kernel
theorem dX6_meanPart_32 : decode cX6_meanPart 32 = .ok (.aload_n 0, 1) := by decide +kernel
theorem dX6_meanPart_33 : decode cX6_meanPart 33 = .ok (.getfield 9, 3) := by decide +kernel
theorem dX6_meanPart_36 : decode cX6_meanPart 36 = .ok (.iload 6, 2) := by decide +kernel
theorem dX6_meanPart_38 : decode cX6_meanPart 38 = .ok (.iaload, 1) := by decide +kernel
theorem dX6_meanPart_39 : decode cX6_meanPart 39 = .ok (.ifCond .le 18, 3) := by decide +kernel
theorem dX6_meanPart_42 : decode cX6_meanPart 42 = .ok (.aload_n 0, 1) := by decide +kernel
theorem dX6_meanPart_43 : decode cX6_meanPart 43 = .ok (.getfield 15, 3) := by decide +kernel
theorem dX6_meanPart_46 : decode cX6_meanPart 46 = .ok (.iload 6, 2) := by decide +kernel
theorem dX6_meanPart_48 : decode cX6_meanPart 48 = .ok (.iaload, 1) := by decide +kernel
theorem dX6_meanPart_49 : decode cX6_meanPart 49 = .ok (.iconst (-1), 1) := by decide +kernel
theorem dX6_meanPart_50 : decode cX6_meanPart 50 = .ok (.if_icmp .ne 7, 3) := by decide +kernel
theorem dX6_meanPart_53 : decode cX6_meanPart 53 = .ok (.ldc2_w 48, 3) := by decide +kernel
theorem dX6_meanPart_56 : decode cX6_meanPart 56 = .ok (.lreturn, 1) := by decide +kernel
theorem dX6_meanPart_57 : decode cX6_meanPart 57 = .ok (.lload_n 2, 1) := by decide +kernel
theorem dX6_meanPart_58 : decode cX6_meanPart 58 = .ok (.aload_n 0, 1) := by decide +kernel
theorem dX6_meanPart_59 : decode cX6_meanPart 59 = .ok (.getfield 9, 3) := by decide +kernel
theorem dX6_meanPart_62 : decode cX6_meanPart 62 = .ok (.iload 6, 2) := by decide +kernel
theorem dX6_meanPart_64 : decode cX6_meanPart 64 = .ok (.iaload, 1) := by decide +kernel
theorem dX6_meanPart_65 : decode cX6_meanPart 65 = .ok (.i2l, 1) := by decide +kernel
theorem dX6_meanPart_66 : decode cX6_meanPart 66 = .ok (.aload_n 0, 1) := by decide +kernel
theorem dX6_meanPart_67 : decode cX6_meanPart 67 = .ok (.getfield 15, 3) := by decide +kernel
theorem dX6_meanPart_70 : decode cX6_meanPart 70 = .ok (.iload 6, 2) := by decide +kernel
theorem dX6_meanPart_72 : decode cX6_meanPart 72 = .ok (.iaload, 1) := by decide +kernel
theorem dX6_meanPart_73 : decode cX6_meanPart 73 = .ok (.i2l, 1) := by decide +kernel
theorem dX6_meanPart_74 : decode cX6_meanPart 74 = .ok (.lmul, 1) := by decide +kernel
theorem dX6_meanPart_75 : decode cX6_meanPart 75 = .ok (.ladd, 1) := by decide +kernel
theorem dX6_meanPart_76 : decode cX6_meanPart 76 = .ok (.lstore_n 2, 1) := by decide +kernel
theorem dX6_meanPart_77 : decode cX6_meanPart 77 = .ok (.lload 4, 2) := by decide +kernel
theorem dX6_meanPart_79 : decode cX6_meanPart 79 = .ok (.aload_n 0, 1) := by decide +kernel
theorem dX6_meanPart_80 : decode cX6_meanPart 80 = .ok (.getfield 9, 3) := by decide +kernel
theorem dX6_meanPart_83 : decode cX6_meanPart 83 = .ok (.iload 6, 2) := by decide +kernel
theorem dX6_meanPart_85 : decode cX6_meanPart 85 = .ok (.iaload, 1) := by decide +kernel
theorem dX6_meanPart_86 : decode cX6_meanPart 86 = .ok (.i2l, 1) := by decide +kernel
theorem dX6_meanPart_87 : decode cX6_meanPart 87 = .ok (.ladd, 1) := by decide +kernel
theorem dX6_meanPart_88 : decode cX6_meanPart 88 = .ok (.lstore 4, 2) := by decide +kernel
theorem dX6_meanPart_90 : decode cX6_meanPart 90 = .ok (.iinc 6 1, 3) := by decide +kernel
theorem dX6_meanPart_93 : decode cX6_meanPart 93 = .ok (.goto (-68), 3) := by decide +kernel
theorem dX6_meanPart_96 : decode cX6_meanPart 96 = .ok (.lload_n 2, 1) := by decide +kernel
theorem dX6_meanPart_97 : decode cX6_meanPart 97 = .ok (.lload 4, 2) := by decide +kernel
theorem dX6_meanPart_99 : decode cX6_meanPart 99 = .ok (.invokestatic 53, 3) := by decide +kernel
theorem dX6_meanPart_102 : decode cX6_meanPart 102 = .ok (.lstore 6, 2) := by decide +kernel
theorem dX6_meanPart_104 : decode cX6_meanPart 104 = .ok (.lload 4, 2) := by decide +kernel
theorem dX6_meanPart_106 : decode cX6_meanPart 106 = .ok (.lconst 0, 1) := by decide +kernel
theorem dX6_meanPart_107 : decode cX6_meanPart 107 = .ok (.lcmp, 1) := by decide +kernel
theorem dX6_meanPart_108 : decode cX6_meanPart 108 = .ok (.ifCond .eq 10, 3) := by decide +kernel
theorem dX6_meanPart_111 : decode cX6_meanPart 111 = .ok (.lload 6, 2) := by decide +kernel
theorem dX6_meanPart_113 : decode cX6_meanPart 113 = .ok (.lconst 0, 1) := by decide +kernel
theorem dX6_meanPart_114 : decode cX6_meanPart 114 = .ok (.lcmp, 1) := by decide +kernel
theorem dX6_meanPart_115 : decode cX6_meanPart 115 = .ok (.ifCond .ne 7, 3) := by decide +kernel
theorem dX6_meanPart_118 : decode cX6_meanPart 118 = .ok (.ldc2_w 48, 3) := by decide +kernel
theorem dX6_meanPart_121 : decode cX6_meanPart 121 = .ok (.lreturn, 1) := by decide +kernel
theorem dX6_meanPart_122 : decode cX6_meanPart 122 = .ok (.iload_n 1, 1) := by decide +kernel
theorem dX6_meanPart_123 : decode cX6_meanPart 123 = .ok (.ifCond .ne 7, 3) := by decide +kernel
theorem dX6_meanPart_126 : decode cX6_meanPart 126 = .ok (.lload_n 2, 1) := by decide +kernel
theorem dX6_meanPart_127 : decode cX6_meanPart 127 = .ok (.goto 5, 3) := by decide +kernel
theorem dX6_meanPart_130 : decode cX6_meanPart 130 = .ok (.lload 4, 2) := by decide +kernel
theorem dX6_meanPart_132 : decode cX6_meanPart 132 = .ok (.lload 6, 2) := by decide +kernel
theorem dX6_meanPart_134 : decode cX6_meanPart 134 = .ok (.ldiv, 1) := by decide +kernel
theorem dX6_meanPart_135 : decode cX6_meanPart 135 = .ok (.lreturn, 1) := by decide +kernel
theorem dX6_findLeasts_0 : decode cX6_findLeasts 0 = .ok (.aload_n 0, 1) := by decide +kernel
theorem dX6_findLeasts_1 : decode cX6_findLeasts 1 = .ok (.getfield 15, 3) := by decide +kernel
theorem dX6_findLeasts_4 : decode cX6_findLeasts 4 = .ok (.iconst (-1), 1) := by decide +kernel
theorem dX6_findLeasts_5 : decode cX6_findLeasts 5 = .ok (.invokestatic 57, 3) := by decide +kernel
theorem dX6_findLeasts_8 : decode cX6_findLeasts 8 = .ok (.iconst 1, 1) := by decide +kernel
theorem dX6_findLeasts_9 : decode cX6_findLeasts 9 = .ok (.istore_n 1, 1) := by decide +kernel
theorem dX6_findLeasts_10 : decode cX6_findLeasts 10 = .ok (.iload_n 1, 1) := by decide +kernel
theorem dX6_findLeasts_11 : decode cX6_findLeasts 11 = .ok (.aload_n 0, 1) := by decide +kernel
theorem dX6_findLeasts_12 : decode cX6_findLeasts 12 = .ok (.getfield 18, 3) := by decide +kernel
theorem dX6_findLeasts_15 : decode cX6_findLeasts 15 = .ok (.invokevirtual 63, 3) := by decide +kernel
theorem dX6_findLeasts_18 : decode cX6_findLeasts 18 = .ok (.if_icmp .ge 79, 3) := by decide +kernel
theorem dX6_findLeasts_21 : decode cX6_findLeasts 21 = .ok (.aload_n 0, 1) := by decide +kernel
theorem dX6_findLeasts_22 : decode cX6_findLeasts 22 = .ok (.getfield 18, 3) := by decide +kernel
theorem dX6_findLeasts_25 : decode cX6_findLeasts 25 = .ok (.iload_n 1, 1) := by decide +kernel
theorem dX6_findLeasts_26 : decode cX6_findLeasts 26 = .ok (.invokevirtual 67, 3) := by decide +kernel
theorem dX6_findLeasts_29 : decode cX6_findLeasts 29 = .ok (.istore_n 2, 1) := by decide +kernel
theorem dX6_findLeasts_30 : decode cX6_findLeasts 30 = .ok (.aload_n 0, 1) := by decide +kernel
theorem dX6_findLeasts_31 : decode cX6_findLeasts 31 = .ok (.getfield 18, 3) := by decide +kernel
theorem dX6_findLeasts_34 : decode cX6_findLeasts 34 = .ok (.iload_n 1, 1) := by decide +kernel
theorem dX6_findLeasts_35 : decode cX6_findLeasts 35 = .ok (.invokevirtual 70, 3) := by decide +kernel
theorem dX6_findLeasts_38 : decode cX6_findLeasts 38 = .ok (.iconst 1, 1) := by decide +kernel
theorem dX6_findLeasts_39 : decode cX6_findLeasts 39 = .ok (.if_icmp .ne 52, 3) := by decide +kernel
theorem dX6_findLeasts_42 : decode cX6_findLeasts 42 = .ok (.iload_n 2, 1) := by decide +kernel
theorem dX6_findLeasts_43 : decode cX6_findLeasts 43 = .ok (.invokestatic 26, 3) := by decide +kernel
theorem dX6_findLeasts_46 : decode cX6_findLeasts 46 = .ok (.ifCond .eq 45, 3) := by decide +kernel
theorem dX6_findLeasts_49 : decode cX6_findLeasts 49 = .ok (.aload_n 0, 1) := by decide +kernel
theorem dX6_findLeasts_50 : decode cX6_findLeasts 50 = .ok (.iload_n 1, 1) := by decide +kernel
theorem dX6_findLeasts_51 : decode cX6_findLeasts 51 = .ok (.invokevirtual 73, 3) := by decide +kernel
theorem dX6_findLeasts_54 : decode cX6_findLeasts 54 = .ok (.istore_n 3, 1) := by decide +kernel
theorem dX6_findLeasts_55 : decode cX6_findLeasts 55 = .ok (.aload_n 0, 1) := by decide +kernel
theorem dX6_findLeasts_56 : decode cX6_findLeasts 56 = .ok (.getfield 15, 3) := by decide +kernel
theorem dX6_findLeasts_59 : decode cX6_findLeasts 59 = .ok (.iload_n 2, 1) := by decide +kernel
theorem dX6_findLeasts_60 : decode cX6_findLeasts 60 = .ok (.bipush 97, 2) := by decide +kernel
theorem dX6_findLeasts_62 : decode cX6_findLeasts 62 = .ok (.isub, 1) := by decide +kernel
theorem dX6_findLeasts_63 : decode cX6_findLeasts 63 = .ok (.iaload, 1) := by decide +kernel
theorem dX6_findLeasts_64 : decode cX6_findLeasts 64 = .ok (.istore 4, 2) := by decide +kernel
theorem dX6_findLeasts_66 : decode cX6_findLeasts 66 = .ok (.aload_n 0, 1) := by decide +kernel
theorem dX6_findLeasts_67 : decode cX6_findLeasts 67 = .ok (.getfield 15, 3) := by decide +kernel
theorem dX6_findLeasts_70 : decode cX6_findLeasts 70 = .ok (.iload_n 2, 1) := by decide +kernel
theorem dX6_findLeasts_71 : decode cX6_findLeasts 71 = .ok (.bipush 97, 2) := by decide +kernel
theorem dX6_findLeasts_73 : decode cX6_findLeasts 73 = .ok (.isub, 1) := by decide +kernel
theorem dX6_findLeasts_74 : decode cX6_findLeasts 74 = .ok (.iload 4, 2) := by decide +kernel
theorem dX6_findLeasts_76 : decode cX6_findLeasts 76 = .ok (.iconst (-1), 1) := by decide +kernel
theorem dX6_findLeasts_77 : decode cX6_findLeasts 77 = .ok (.if_icmp .ne 7, 3) := by decide +kernel
theorem dX6_findLeasts_80 : decode cX6_findLeasts 80 = .ok (.iload_n 3, 1) := by decide +kernel
theorem dX6_findLeasts_81 : decode cX6_findLeasts 81 = .ok (.goto 9, 3) := by decide +kernel
theorem dX6_findLeasts_84 : decode cX6_findLeasts 84 = .ok (.iload 4, 2) := by decide +kernel
theorem dX6_findLeasts_86 : decode cX6_findLeasts 86 = .ok (.iload_n 3, 1) := by decide +kernel
theorem dX6_findLeasts_87 : decode cX6_findLeasts 87 = .ok (.invokestatic 76, 3) := by decide +kernel
theorem dX6_findLeasts_90 : decode cX6_findLeasts 90 = .ok (.iastore, 1) := by decide +kernel
theorem dX6_findLeasts_91 : decode cX6_findLeasts 91 = .ok (.iinc 1 1, 3) := by decide +kernel
theorem dX6_findLeasts_94 : decode cX6_findLeasts 94 = .ok (.goto (-84), 3) := by decide +kernel
theorem dX6_findLeasts_97 : decode cX6_findLeasts 97 = .ok (.return_, 1) := by decide +kernel
theorem dX6_commonDivisor_0 : decode cX6_commonDivisor 0 = .ok (.lload_n 0, 1) := by decide +kernel
theorem dX6_commonDivisor_1 : decode cX6_commonDivisor 1 = .ok (.lstore 4, 2) := by decide +kernel
theorem dX6_commonDivisor_3 : decode cX6_commonDivisor 3 = .ok (.lload_n 2, 1) := by decide +kernel
theorem dX6_commonDivisor_4 : decode cX6_commonDivisor 4 = .ok (.lstore 6, 2) := by decide +kernel
theorem dX6_commonDivisor_6 : decode cX6_commonDivisor 6 = .ok (.iconst 0, 1) := by decide +kernel
theorem dX6_commonDivisor_7 : decode cX6_commonDivisor 7 = .ok (.istore 8, 2) := by decide +kernel
theorem dX6_commonDivisor_9 : decode cX6_commonDivisor 9 = .ok (.iload 8, 2) := by decide +kernel
theorem dX6_commonDivisor_11 : decode cX6_commonDivisor 11 = .ok (.bipush 100, 2) := by decide +kernel
theorem dX6_commonDivisor_13 : decode cX6_commonDivisor 13 = .ok (.if_icmp .ge 31, 3) := by decide +kernel
theorem dX6_commonDivisor_16 : decode cX6_commonDivisor 16 = .ok (.lload 6, 2) := by decide +kernel
theorem dX6_commonDivisor_18 : decode cX6_commonDivisor 18 = .ok (.lconst 0, 1) := by decide +kernel
theorem dX6_commonDivisor_19 : decode cX6_commonDivisor 19 = .ok (.lcmp, 1) := by decide +kernel
theorem dX6_commonDivisor_20 : decode cX6_commonDivisor 20 = .ok (.ifCond .eq 24, 3) := by decide +kernel
theorem dX6_commonDivisor_23 : decode cX6_commonDivisor 23 = .ok (.lload 4, 2) := by decide +kernel
theorem dX6_commonDivisor_25 : decode cX6_commonDivisor 25 = .ok (.lload 6, 2) := by decide +kernel
theorem dX6_commonDivisor_27 : decode cX6_commonDivisor 27 = .ok (.lrem, 1) := by decide +kernel
theorem dX6_commonDivisor_28 : decode cX6_commonDivisor 28 = .ok (.lstore 9, 2) := by decide +kernel
theorem dX6_commonDivisor_30 : decode cX6_commonDivisor 30 = .ok (.lload 6, 2) := by decide +kernel
theorem dX6_commonDivisor_32 : decode cX6_commonDivisor 32 = .ok (.lstore 4, 2) := by decide +kernel
theorem dX6_commonDivisor_34 : decode cX6_commonDivisor 34 = .ok (.lload 9, 2) := by decide +kernel
theorem dX6_commonDivisor_36 : decode cX6_commonDivisor 36 = .ok (.lstore 6, 2) := by decide +kernel
theorem dX6_commonDivisor_38 : decode cX6_commonDivisor 38 = .ok (.iinc 8 1, 3) := by decide +kernel
theorem dX6_commonDivisor_41 : decode cX6_commonDivisor 41 = .ok (.goto (-32), 3) := by decide +kernel
theorem dX6_commonDivisor_44 : decode cX6_commonDivisor 44 = .ok (.lload 4, 2) := by decide +kernel
theorem dX6_commonDivisor_46 : decode cX6_commonDivisor 46 = .ok (.lreturn, 1) := by decide +kernel
theorem dX7_init_0 : decode cX7_init 0 = .ok (.aload_n 0, 1) := by decide +kernel
theorem dX7_init_1 : decode cX7_init 1 = .ok (.invokespecial 3, 3) := by decide +kernel
theorem dX7_init_4 : decode cX7_init 4 = .ok (.aload_n 0, 1) := by decide +kernel
theorem dX7_init_5 : decode cX7_init 5 = .ok (.new 9, 3) := by decide +kernel
theorem dX7_init_8 : decode cX7_init 8 = .ok (.dup, 1) := by decide +kernel
theorem dX7_init_9 : decode cX7_init 9 = .ok (.aconst_null, 1) := by decide +kernel
theorem dX7_init_10 : decode cX7_init 10 = .ok (.iconst 0, 1) := by decide +kernel
theorem dX7_init_11 : decode cX7_init 11 = .ok (.invokespecial 11, 3) := by decide +kernel
theorem dX7_init_14 : decode cX7_init 14 = .ok (.putfield 14, 3) := by decide +kernel
theorem dX7_init_17 : decode cX7_init 17 = .ok (.aload_n 0, 1) := by decide +kernel
theorem dX7_init_18 : decode cX7_init 18 = .ok (.bipush 100, 2) := by decide +kernel
theorem dX7_init_20 : decode cX7_init 20 = .ok (.anewarray 9, 3) := by decide +kernel
theorem dX7_init_23 : decode cX7_init 23 = .ok (.putfield 20, 3) := by decide +kernel
theorem dX7_init_26 : decode cX7_init 26 = .ok (.aload_n 0, 1) := by decide +kernel
theorem dX7_init_27 : decode cX7_init 27 = .ok (.bipush 100, 2) := by decide +kernel
theorem dX7_init_29 : decode cX7_init 29 = .ok (.anewarray 9, 3) := by decide +kernel
theorem dX7_init_32 : decode cX7_init 32 = .ok (.putfield 24, 3) := by decide +kernel
theorem dX7_init_35 : decode cX7_init 35 = .ok (.aload_n 0, 1) := by decide +kernel
theorem dX7_init_36 : decode cX7_init 36 = .ok (.aload_n 0, 1) := by decide +kernel
theorem dX7_init_37 : decode cX7_init 37 = .ok (.getfield 14, 3) := by decide +kernel
theorem dX7_init_40 : decode cX7_init 40 = .ok (.putfield 27, 3) := by decide +kernel
theorem dX7_init_43 : decode cX7_init 43 = .ok (.return_, 1) := by decide +kernel
theorem dX7_part_0 : decode cX7_part 0 = .ok (.iload_n 1, 1) := by decide +kernel
theorem dX7_part_1 : decode cX7_part 1 = .ok (.ifCond .ne 8, 3) := by decide +kernel
theorem dX7_part_4 : decode cX7_part 4 = .ok (.aload_n 0, 1) := by decide +kernel
theorem dX7_part_5 : decode cX7_part 5 = .ok (.getfield 27, 3) := by decide +kernel
theorem dX7_part_8 : decode cX7_part 8 = .ok (.areturn, 1) := by decide +kernel
theorem dX7_part_9 : decode cX7_part 9 = .ok (.iload_n 1, 1) := by decide +kernel
theorem dX7_part_10 : decode cX7_part 10 = .ok (.iconst 1, 1) := by decide +kernel
theorem dX7_part_11 : decode cX7_part 11 = .ok (.if_icmp .ne 10, 3) := by decide +kernel
theorem dX7_part_14 : decode cX7_part 14 = .ok (.aload_n 0, 1) := by decide +kernel
theorem dX7_part_15 : decode cX7_part 15 = .ok (.getfield 30, 3) := by decide +kernel
theorem dX7_part_18 : decode cX7_part 18 = .ok (.goto 4, 3) := by decide +kernel
theorem dX7_part_21 : decode cX7_part 21 = .ok (.aconst_null, 1) := by decide +kernel
theorem dX7_part_22 : decode cX7_part 22 = .ok (.areturn, 1) := by decide +kernel
theorem dX7_undoable_0 : decode cX7_undoable 0 = .ok (.aload_n 0, 1) := by decide +kernel
theorem dX7_undoable_1 : decode cX7_undoable 1 = .ok (.getfield 33, 3) := by decide +kernel
theorem dX7_undoable_4 : decode cX7_undoable 4 = .ok (.ireturn, 1) := by decide +kernel
theorem dX7_written_0 : decode cX7_written 0 = .ok (.aload_n 0, 1) := by decide +kernel
theorem dX7_written_1 : decode cX7_written 1 = .ok (.getfield 27, 3) := by decide +kernel
theorem dX7_written_4 : decode cX7_written 4 = .ok (.astore_n 1, 1) := by decide +kernel
theorem dX7_written_5 : decode cX7_written 5 = .ok (.iconst 0, 1) := by decide +kernel
theorem dX7_written_6 : decode cX7_written 6 = .ok (.istore_n 2, 1) := by decide +kernel
theorem dX7_written_7 : decode cX7_written 7 = .ok (.iload_n 2, 1) := by decide +kernel
theorem dX7_written_8 : decode cX7_written 8 = .ok (.sipush 200, 3) := by decide +kernel
theorem dX7_written_11 : decode cX7_written 11 = .ok (.if_icmp .ge 31, 3) := by decide +kernel
theorem dX7_written_14 : decode cX7_written 14 = .ok (.aload_n 1, 1) := by decide +kernel
theorem dX7_written_15 : decode cX7_written 15 = .ok (.getfield 37, 3) := by decide +kernel
theorem dX7_written_18 : decode cX7_written 18 = .ok (.ifnull 24, 3) := by decide +kernel
theorem dX7_written_21 : decode cX7_written 21 = .ok (.aload_n 1, 1) := by decide +kernel
theorem dX7_written_22 : decode cX7_written 22 = .ok (.getfield 40, 3) := by decide +kernel
theorem dX7_written_25 : decode cX7_written 25 = .ok (.invokestatic 43, 3) := by decide +kernel
theorem dX7_written_28 : decode cX7_written 28 = .ok (.ifCond .eq 14, 3) := by decide +kernel
theorem dX7_written_31 : decode cX7_written 31 = .ok (.aload_n 1, 1) := by decide +kernel
theorem dX7_written_32 : decode cX7_written 32 = .ok (.getfield 37, 3) := by decide +kernel
theorem dX7_written_35 : decode cX7_written 35 = .ok (.astore_n 1, 1) := by decide +kernel
theorem dX7_written_36 : decode cX7_written 36 = .ok (.iinc 2 1, 3) := by decide +kernel
theorem dX7_written_39 : decode cX7_written 39 = .ok (.goto (-32), 3) := by decide +kernel
theorem dX7_written_42 : decode cX7_written 42 = .ok (.iload_n 2, 1) := by decide +kernel
theorem dX7_written_43 : decode cX7_written 43 = .ok (.ireturn, 1) := by decide +kernel
theorem dX7_copyLast_0 : decode cX7_copyLast 0 = .ok (.aload_n 0, 1) := by decide +kernel
theorem dX7_copyLast_1 : decode cX7_copyLast 1 = .ok (.getfield 27, 3) := by decide +kernel
theorem dX7_copyLast_4 : decode cX7_copyLast 4 = .ok (.astore_n 3, 1) := by decide +kernel
theorem dX7_copyLast_5 : decode cX7_copyLast 5 = .ok (.iload_n 1, 1) := by decide +kernel
theorem dX7_copyLast_6 : decode cX7_copyLast 6 = .ok (.iconst 1, 1) := by decide +kernel
theorem dX7_copyLast_7 : decode cX7_copyLast 7 = .ok (.isub, 1) := by decide +kernel
theorem dX7_copyLast_8 : decode cX7_copyLast 8 = .ok (.istore 4, 2) := by decide +kernel
theorem dX7_copyLast_10 : decode cX7_copyLast 10 = .ok (.iload 4, 2) := by decide +kernel
theorem dX7_copyLast_12 : decode cX7_copyLast 12 = .ok (.ifCond .lt 36, 3) := by decide +kernel
theorem dX7_copyLast_15 : decode cX7_copyLast 15 = .ok (.iload 4, 2) := by decide +kernel
theorem dX7_copyLast_17 : decode cX7_copyLast 17 = .ok (.aload_n 2, 1) := by decide +kernel
theorem dX7_copyLast_18 : decode cX7_copyLast 18 = .ok (.arraylength, 1) := by decide +kernel
theorem dX7_copyLast_19 : decode cX7_copyLast 19 = .ok (.if_icmp .ge 29, 3) := by decide +kernel
theorem dX7_copyLast_22 : decode cX7_copyLast 22 = .ok (.aload_n 3, 1) := by decide +kernel
theorem dX7_copyLast_23 : decode cX7_copyLast 23 = .ok (.getfield 37, 3) := by decide +kernel
theorem dX7_copyLast_26 : decode cX7_copyLast 26 = .ok (.ifnull 22, 3) := by decide +kernel
theorem dX7_copyLast_29 : decode cX7_copyLast 29 = .ok (.aload_n 2, 1) := by decide +kernel
theorem dX7_copyLast_30 : decode cX7_copyLast 30 = .ok (.iload 4, 2) := by decide +kernel
theorem dX7_copyLast_32 : decode cX7_copyLast 32 = .ok (.aload_n 3, 1) := by decide +kernel
theorem dX7_copyLast_33 : decode cX7_copyLast 33 = .ok (.getfield 40, 3) := by decide +kernel
theorem dX7_copyLast_36 : decode cX7_copyLast 36 = .ok (.iastore, 1) := by decide +kernel
theorem dX7_copyLast_37 : decode cX7_copyLast 37 = .ok (.aload_n 3, 1) := by decide +kernel
theorem dX7_copyLast_38 : decode cX7_copyLast 38 = .ok (.getfield 37, 3) := by decide +kernel
theorem dX7_copyLast_41 : decode cX7_copyLast 41 = .ok (.astore_n 3, 1) := by decide +kernel
theorem dX7_copyLast_42 : decode cX7_copyLast 42 = .ok (.iinc 4 (-1), 3) := by decide +kernel
theorem dX7_copyLast_45 : decode cX7_copyLast 45 = .ok (.goto (-35), 3) := by decide +kernel
theorem dX7_copyLast_48 : decode cX7_copyLast 48 = .ok (.return_, 1) := by decide +kernel
theorem dX7_write_0 : decode cX7_write 0 = .ok (.aload_n 0, 1) := by decide +kernel
theorem dX7_write_1 : decode cX7_write 1 = .ok (.getfield 27, 3) := by decide +kernel
theorem dX7_write_4 : decode cX7_write 4 = .ok (.getfield 47, 3) := by decide +kernel
theorem dX7_write_7 : decode cX7_write 7 = .ok (.sipush 200, 3) := by decide +kernel
theorem dX7_write_10 : decode cX7_write 10 = .ok (.if_icmp .ge 23, 3) := by decide +kernel
theorem dX7_write_13 : decode cX7_write 13 = .ok (.aload_n 0, 1) := by decide +kernel
theorem dX7_write_14 : decode cX7_write 14 = .ok (.invokevirtual 50, 3) := by decide +kernel
theorem dX7_write_17 : decode cX7_write 17 = .ok (.aload_n 0, 1) := by decide +kernel
theorem dX7_write_18 : decode cX7_write 18 = .ok (.new 9, 3) := by decide +kernel
theorem dX7_write_21 : decode cX7_write 21 = .ok (.dup, 1) := by decide +kernel
theorem dX7_write_22 : decode cX7_write 22 = .ok (.aload_n 0, 1) := by decide +kernel
theorem dX7_write_23 : decode cX7_write 23 = .ok (.getfield 27, 3) := by decide +kernel
theorem dX7_write_26 : decode cX7_write 26 = .ok (.iload_n 1, 1) := by decide +kernel
theorem dX7_write_27 : decode cX7_write 27 = .ok (.invokespecial 11, 3) := by decide +kernel
theorem dX7_write_30 : decode cX7_write 30 = .ok (.putfield 27, 3) := by decide +kernel
theorem dX7_write_33 : decode cX7_write 33 = .ok (.return_, 1) := by decide +kernel
theorem dX7_dropLast_0 : decode cX7_dropLast 0 = .ok (.aload_n 0, 1) := by decide +kernel
theorem dX7_dropLast_1 : decode cX7_dropLast 1 = .ok (.getfield 27, 3) := by decide +kernel
theorem dX7_dropLast_4 : decode cX7_dropLast 4 = .ok (.getfield 47, 3) := by decide +kernel
theorem dX7_dropLast_7 : decode cX7_dropLast 7 = .ok (.ifCond .le 19, 3) := by decide +kernel
theorem dX7_dropLast_10 : decode cX7_dropLast 10 = .ok (.aload_n 0, 1) := by decide +kernel
theorem dX7_dropLast_11 : decode cX7_dropLast 11 = .ok (.invokevirtual 50, 3) := by decide +kernel
theorem dX7_dropLast_14 : decode cX7_dropLast 14 = .ok (.aload_n 0, 1) := by decide +kernel
theorem dX7_dropLast_15 : decode cX7_dropLast 15 = .ok (.aload_n 0, 1) := by decide +kernel
theorem dX7_dropLast_16 : decode cX7_dropLast 16 = .ok (.getfield 27, 3) := by decide +kernel
theorem dX7_dropLast_19 : decode cX7_dropLast 19 = .ok (.iconst 1, 1) := by decide +kernel
theorem dX7_dropLast_20 : decode cX7_dropLast 20 = .ok (.invokevirtual 53, 3) := by decide +kernel
theorem dX7_dropLast_23 : decode cX7_dropLast 23 = .ok (.putfield 27, 3) := by decide +kernel
theorem dX7_dropLast_26 : decode cX7_dropLast 26 = .ok (.return_, 1) := by decide +kernel
theorem dX7_speak_0 : decode cX7_speak 0 = .ok (.aload_n 0, 1) := by decide +kernel
theorem dX7_speak_1 : decode cX7_speak 1 = .ok (.getfield 27, 3) := by decide +kernel
theorem dX7_speak_4 : decode cX7_speak 4 = .ok (.getfield 47, 3) := by decide +kernel
theorem dX7_speak_7 : decode cX7_speak 7 = .ok (.ifCond .gt 20, 3) := by decide +kernel
theorem dX7_speak_10 : decode cX7_speak 10 = .ok (.aload_n 0, 1) := by decide +kernel
theorem dX7_speak_11 : decode cX7_speak 11 = .ok (.getfield 30, 3) := by decide +kernel
theorem dX7_speak_14 : decode cX7_speak 14 = .ok (.ifnull 13, 3) := by decide +kernel
theorem dX7_speak_17 : decode cX7_speak 17 = .ok (.aload_n 0, 1) := by decide +kernel
theorem dX7_speak_18 : decode cX7_speak 18 = .ok (.getfield 30, 3) := by decide +kernel
theorem dX7_speak_21 : decode cX7_speak 21 = .ok (.getfield 47, 3) := by decide +kernel
theorem dX7_speak_24 : decode cX7_speak 24 = .ok (.ifCond .le 23, 3) := by decide +kernel
theorem dX7_speak_27 : decode cX7_speak 27 = .ok (.aload_n 0, 1) := by decide +kernel
theorem dX7_speak_28 : decode cX7_speak 28 = .ok (.invokevirtual 50, 3) := by decide +kernel
theorem dX7_speak_31 : decode cX7_speak 31 = .ok (.aload_n 0, 1) := by decide +kernel
theorem dX7_speak_32 : decode cX7_speak 32 = .ok (.aload_n 0, 1) := by decide +kernel
theorem dX7_speak_33 : decode cX7_speak 33 = .ok (.getfield 27, 3) := by decide +kernel
theorem dX7_speak_36 : decode cX7_speak 36 = .ok (.putfield 30, 3) := by decide +kernel
theorem dX7_speak_39 : decode cX7_speak 39 = .ok (.aload_n 0, 1) := by decide +kernel
theorem dX7_speak_40 : decode cX7_speak 40 = .ok (.aload_n 0, 1) := by decide +kernel
theorem dX7_speak_41 : decode cX7_speak 41 = .ok (.getfield 14, 3) := by decide +kernel
theorem dX7_speak_44 : decode cX7_speak 44 = .ok (.putfield 27, 3) := by decide +kernel
theorem dX7_speak_47 : decode cX7_speak 47 = .ok (.return_, 1) := by decide +kernel
theorem dX7_complete_0 : decode cX7_complete 0 = .ok (.aload_n 1, 1) := by decide +kernel
theorem dX7_complete_1 : decode cX7_complete 1 = .ok (.iload_n 2, 1) := by decide +kernel
theorem dX7_complete_2 : decode cX7_complete 2 = .ok (.invokevirtual 57, 3) := by decide +kernel
theorem dX7_complete_5 : decode cX7_complete 5 = .ok (.istore 4, 2) := by decide +kernel
theorem dX7_complete_7 : decode cX7_complete 7 = .ok (.aload_n 0, 1) := by decide +kernel
theorem dX7_complete_8 : decode cX7_complete 8 = .ok (.invokevirtual 63, 3) := by decide +kernel
theorem dX7_complete_11 : decode cX7_complete 11 = .ok (.istore 5, 2) := by decide +kernel
theorem dX7_complete_13 : decode cX7_complete 13 = .ok (.iload 4, 2) := by decide +kernel
theorem dX7_complete_15 : decode cX7_complete 15 = .ok (.ifCond .eq 32, 3) := by decide +kernel
theorem dX7_complete_18 : decode cX7_complete 18 = .ok (.aload_n 0, 1) := by decide +kernel
theorem dX7_complete_19 : decode cX7_complete 19 = .ok (.getfield 27, 3) := by decide +kernel
theorem dX7_complete_22 : decode cX7_complete 22 = .ok (.getfield 47, 3) := by decide +kernel
theorem dX7_complete_25 : decode cX7_complete 25 = .ok (.iload 5, 2) := by decide +kernel
theorem dX7_complete_27 : decode cX7_complete 27 = .ok (.isub, 1) := by decide +kernel
theorem dX7_complete_28 : decode cX7_complete 28 = .ok (.iload 4, 2) := by decide +kernel
theorem dX7_complete_30 : decode cX7_complete 30 = .ok (.iadd, 1) := by decide +kernel
theorem dX7_complete_31 : decode cX7_complete 31 = .ok (.iload_n 3, 1) := by decide +kernel
theorem dX7_complete_32 : decode cX7_complete 32 = .ok (.ifCond .eq 7, 3) := by decide +kernel
theorem dX7_complete_35 : decode cX7_complete 35 = .ok (.iconst 1, 1) := by decide +kernel
theorem dX7_complete_36 : decode cX7_complete 36 = .ok (.goto 4, 3) := by decide +kernel
theorem dX7_complete_39 : decode cX7_complete 39 = .ok (.iconst 0, 1) := by decide +kernel
theorem dX7_complete_40 : decode cX7_complete 40 = .ok (.iadd, 1) := by decide +kernel
theorem dX7_complete_41 : decode cX7_complete 41 = .ok (.sipush 200, 3) := by decide +kernel
theorem dX7_complete_44 : decode cX7_complete 44 = .ok (.if_icmp .le 4, 3) := by decide +kernel
theorem dX7_complete_47 : decode cX7_complete 47 = .ok (.return_, 1) := by decide +kernel
theorem dX7_complete_48 : decode cX7_complete 48 = .ok (.aload_n 0, 1) := by decide +kernel
theorem dX7_complete_49 : decode cX7_complete 49 = .ok (.invokevirtual 50, 3) := by decide +kernel
theorem dX7_complete_52 : decode cX7_complete 52 = .ok (.aload_n 0, 1) := by decide +kernel
theorem dX7_complete_53 : decode cX7_complete 53 = .ok (.aload_n 0, 1) := by decide +kernel
theorem dX7_complete_54 : decode cX7_complete 54 = .ok (.getfield 27, 3) := by decide +kernel
theorem dX7_complete_57 : decode cX7_complete 57 = .ok (.iload 5, 2) := by decide +kernel
theorem dX7_complete_59 : decode cX7_complete 59 = .ok (.invokevirtual 53, 3) := by decide +kernel
theorem dX7_complete_62 : decode cX7_complete 62 = .ok (.putfield 27, 3) := by decide +kernel
theorem dX7_complete_65 : decode cX7_complete 65 = .ok (.iconst 0, 1) := by decide +kernel
theorem dX7_complete_66 : decode cX7_complete 66 = .ok (.istore 6, 2) := by decide +kernel
theorem dX7_complete_68 : decode cX7_complete 68 = .ok (.iload 6, 2) := by decide +kernel
theorem dX7_complete_70 : decode cX7_complete 70 = .ok (.iload 4, 2) := by decide +kernel
theorem dX7_complete_72 : decode cX7_complete 72 = .ok (.if_icmp .ge 31, 3) := by decide +kernel
theorem dX7_complete_75 : decode cX7_complete 75 = .ok (.aload_n 0, 1) := by decide +kernel
theorem dX7_complete_76 : decode cX7_complete 76 = .ok (.new 9, 3) := by decide +kernel
theorem dX7_complete_79 : decode cX7_complete 79 = .ok (.dup, 1) := by decide +kernel
theorem dX7_complete_80 : decode cX7_complete 80 = .ok (.aload_n 0, 1) := by decide +kernel
theorem dX7_complete_81 : decode cX7_complete 81 = .ok (.getfield 27, 3) := by decide +kernel
theorem dX7_complete_84 : decode cX7_complete 84 = .ok (.aload_n 1, 1) := by decide +kernel
theorem dX7_complete_85 : decode cX7_complete 85 = .ok (.iload_n 2, 1) := by decide +kernel
theorem dX7_complete_86 : decode cX7_complete 86 = .ok (.iload 6, 2) := by decide +kernel
theorem dX7_complete_88 : decode cX7_complete 88 = .ok (.invokevirtual 67, 3) := by decide +kernel
theorem dX7_complete_91 : decode cX7_complete 91 = .ok (.invokespecial 11, 3) := by decide +kernel
theorem dX7_complete_94 : decode cX7_complete 94 = .ok (.putfield 27, 3) := by decide +kernel
theorem dX7_complete_97 : decode cX7_complete 97 = .ok (.iinc 6 1, 3) := by decide +kernel
theorem dX7_complete_100 : decode cX7_complete 100 = .ok (.goto (-32), 3) := by decide +kernel
theorem dX7_complete_103 : decode cX7_complete 103 = .ok (.iload_n 3, 1) := by decide +kernel
theorem dX7_complete_104 : decode cX7_complete 104 = .ok (.ifCond .eq 20, 3) := by decide +kernel
theorem dX7_complete_107 : decode cX7_complete 107 = .ok (.aload_n 0, 1) := by decide +kernel
theorem dX7_complete_108 : decode cX7_complete 108 = .ok (.new 9, 3) := by decide +kernel
theorem dX7_complete_111 : decode cX7_complete 111 = .ok (.dup, 1) := by decide +kernel
theorem dX7_complete_112 : decode cX7_complete 112 = .ok (.aload_n 0, 1) := by decide +kernel
theorem dX7_complete_113 : decode cX7_complete 113 = .ok (.getfield 27, 3) := by decide +kernel
theorem dX7_complete_116 : decode cX7_complete 116 = .ok (.bipush 32, 2) := by decide +kernel
theorem dX7_complete_118 : decode cX7_complete 118 = .ok (.invokespecial 11, 3) := by decide +kernel
theorem dX7_complete_121 : decode cX7_complete 121 = .ok (.putfield 27, 3) := by decide +kernel
theorem dX7_complete_124 : decode cX7_complete 124 = .ok (.return_, 1) := by decide +kernel
theorem dX7_takeBack_0 : decode cX7_takeBack 0 = .ok (.aload_n 0, 1) := by decide +kernel
theorem dX7_takeBack_1 : decode cX7_takeBack 1 = .ok (.getfield 33, 3) := by decide +kernel
theorem dX7_takeBack_4 : decode cX7_takeBack 4 = .ok (.ifCond .le 62, 3) := by decide +kernel
theorem dX7_takeBack_7 : decode cX7_takeBack 7 = .ok (.aload_n 0, 1) := by decide +kernel
theorem dX7_takeBack_8 : decode cX7_takeBack 8 = .ok (.dup, 1) := by decide +kernel
theorem dX7_takeBack_9 : decode cX7_takeBack 9 = .ok (.getfield 33, 3) := by decide +kernel
theorem dX7_takeBack_12 : decode cX7_takeBack 12 = .ok (.iconst 1, 1) := by decide +kernel
theorem dX7_takeBack_13 : decode cX7_takeBack 13 = .ok (.isub, 1) := by decide +kernel
theorem dX7_takeBack_14 : decode cX7_takeBack 14 = .ok (.putfield 33, 3) := by decide +kernel
theorem dX7_takeBack_17 : decode cX7_takeBack 17 = .ok (.aload_n 0, 1) := by decide +kernel
theorem dX7_takeBack_18 : decode cX7_takeBack 18 = .ok (.getfield 71, 3) := by decide +kernel
theorem dX7_takeBack_21 : decode cX7_takeBack 21 = .ok (.aload_n 0, 1) := by decide +kernel
theorem dX7_takeBack_22 : decode cX7_takeBack 22 = .ok (.getfield 33, 3) := by decide +kernel
theorem dX7_takeBack_25 : decode cX7_takeBack 25 = .ok (.iadd, 1) := by decide +kernel
theorem dX7_takeBack_26 : decode cX7_takeBack 26 = .ok (.bipush 100, 2) := by decide +kernel
theorem dX7_takeBack_28 : decode cX7_takeBack 28 = .ok (.irem, 1) := by decide +kernel
theorem dX7_takeBack_29 : decode cX7_takeBack 29 = .ok (.istore_n 1, 1) := by decide +kernel
theorem dX7_takeBack_30 : decode cX7_takeBack 30 = .ok (.aload_n 0, 1) := by decide +kernel
theorem dX7_takeBack_31 : decode cX7_takeBack 31 = .ok (.aload_n 0, 1) := by decide +kernel
theorem dX7_takeBack_32 : decode cX7_takeBack 32 = .ok (.getfield 20, 3) := by decide +kernel
theorem dX7_takeBack_35 : decode cX7_takeBack 35 = .ok (.iload_n 1, 1) := by decide +kernel
theorem dX7_takeBack_36 : decode cX7_takeBack 36 = .ok (.aaload, 1) := by decide +kernel
theorem dX7_takeBack_37 : decode cX7_takeBack 37 = .ok (.ifnonnull 10, 3) := by decide +kernel
theorem dX7_takeBack_40 : decode cX7_takeBack 40 = .ok (.aload_n 0, 1) := by decide +kernel
theorem dX7_takeBack_41 : decode cX7_takeBack 41 = .ok (.getfield 14, 3) := by decide +kernel
theorem dX7_takeBack_44 : decode cX7_takeBack 44 = .ok (.goto 9, 3) := by decide +kernel
theorem dX7_takeBack_47 : decode cX7_takeBack 47 = .ok (.aload_n 0, 1) := by decide +kernel
theorem dX7_takeBack_48 : decode cX7_takeBack 48 = .ok (.getfield 20, 3) := by decide +kernel
theorem dX7_takeBack_51 : decode cX7_takeBack 51 = .ok (.iload_n 1, 1) := by decide +kernel
theorem dX7_takeBack_52 : decode cX7_takeBack 52 = .ok (.aaload, 1) := by decide +kernel
theorem dX7_takeBack_53 : decode cX7_takeBack 53 = .ok (.putfield 27, 3) := by decide +kernel
theorem dX7_takeBack_56 : decode cX7_takeBack 56 = .ok (.aload_n 0, 1) := by decide +kernel
theorem dX7_takeBack_57 : decode cX7_takeBack 57 = .ok (.aload_n 0, 1) := by decide +kernel
theorem dX7_takeBack_58 : decode cX7_takeBack 58 = .ok (.getfield 24, 3) := by decide +kernel
theorem dX7_takeBack_61 : decode cX7_takeBack 61 = .ok (.iload_n 1, 1) := by decide +kernel
theorem dX7_takeBack_62 : decode cX7_takeBack 62 = .ok (.aaload, 1) := by decide +kernel
theorem dX7_takeBack_63 : decode cX7_takeBack 63 = .ok (.putfield 30, 3) := by decide +kernel
theorem dX7_takeBack_66 : decode cX7_takeBack 66 = .ok (.return_, 1) := by decide +kernel
theorem dX7_keep_0 : decode cX7_keep 0 = .ok (.aload_n 0, 1) := by decide +kernel
theorem dX7_keep_1 : decode cX7_keep 1 = .ok (.getfield 71, 3) := by decide +kernel
theorem dX7_keep_4 : decode cX7_keep 4 = .ok (.aload_n 0, 1) := by decide +kernel
theorem dX7_keep_5 : decode cX7_keep 5 = .ok (.getfield 33, 3) := by decide +kernel
theorem dX7_keep_8 : decode cX7_keep 8 = .ok (.iadd, 1) := by decide +kernel
theorem dX7_keep_9 : decode cX7_keep 9 = .ok (.bipush 100, 2) := by decide +kernel
theorem dX7_keep_11 : decode cX7_keep 11 = .ok (.irem, 1) := by decide +kernel
theorem dX7_keep_12 : decode cX7_keep 12 = .ok (.istore_n 1, 1) := by decide +kernel
theorem dX7_keep_13 : decode cX7_keep 13 = .ok (.aload_n 0, 1) := by decide +kernel
theorem dX7_keep_14 : decode cX7_keep 14 = .ok (.getfield 20, 3) := by decide +kernel
theorem dX7_keep_17 : decode cX7_keep 17 = .ok (.iload_n 1, 1) := by decide +kernel
theorem dX7_keep_18 : decode cX7_keep 18 = .ok (.aload_n 0, 1) := by decide +kernel
theorem dX7_keep_19 : decode cX7_keep 19 = .ok (.getfield 27, 3) := by decide +kernel
theorem dX7_keep_22 : decode cX7_keep 22 = .ok (.aastore, 1) := by decide +kernel
theorem dX7_keep_23 : decode cX7_keep 23 = .ok (.aload_n 0, 1) := by decide +kernel
theorem dX7_keep_24 : decode cX7_keep 24 = .ok (.getfield 24, 3) := by decide +kernel
theorem dX7_keep_27 : decode cX7_keep 27 = .ok (.iload_n 1, 1) := by decide +kernel
theorem dX7_keep_28 : decode cX7_keep 28 = .ok (.aload_n 0, 1) := by decide +kernel
theorem dX7_keep_29 : decode cX7_keep 29 = .ok (.getfield 30, 3) := by decide +kernel
theorem dX7_keep_32 : decode cX7_keep 32 = .ok (.aastore, 1) := by decide +kernel
theorem dX7_keep_33 : decode cX7_keep 33 = .ok (.aload_n 0, 1) := by decide +kernel
theorem dX7_keep_34 : decode cX7_keep 34 = .ok (.getfield 33, 3) := by decide +kernel
theorem dX7_keep_37 : decode cX7_keep 37 = .ok (.bipush 100, 2) := by decide +kernel
theorem dX7_keep_39 : decode cX7_keep 39 = .ok (.if_icmp .ge 16, 3) := by decide +kernel
theorem dX7_keep_42 : decode cX7_keep 42 = .ok (.aload_n 0, 1) := by decide +kernel
theorem dX7_keep_43 : decode cX7_keep 43 = .ok (.dup, 1) := by decide +kernel
theorem dX7_keep_44 : decode cX7_keep 44 = .ok (.getfield 33, 3) := by decide +kernel
theorem dX7_keep_47 : decode cX7_keep 47 = .ok (.iconst 1, 1) := by decide +kernel
theorem dX7_keep_48 : decode cX7_keep 48 = .ok (.iadd, 1) := by decide +kernel
theorem dX7_keep_49 : decode cX7_keep 49 = .ok (.putfield 33, 3) := by decide +kernel
theorem dX7_keep_52 : decode cX7_keep 52 = .ok (.goto 16, 3) := by decide +kernel
theorem dX7_keep_55 : decode cX7_keep 55 = .ok (.aload_n 0, 1) := by decide +kernel
theorem dX7_keep_56 : decode cX7_keep 56 = .ok (.aload_n 0, 1) := by decide +kernel
theorem dX7_keep_57 : decode cX7_keep 57 = .ok (.getfield 71, 3) := by decide +kernel
theorem dX7_keep_60 : decode cX7_keep 60 = .ok (.iconst 1, 1) := by decide +kernel
theorem dX7_keep_61 : decode cX7_keep 61 = .ok (.iadd, 1) := by decide +kernel
theorem dX7_keep_62 : decode cX7_keep 62 = .ok (.bipush 100, 2) := by decide +kernel
theorem dX7_keep_64 : decode cX7_keep 64 = .ok (.irem, 1) := by decide +kernel
theorem dX7_keep_65 : decode cX7_keep 65 = .ok (.putfield 71, 3) := by decide +kernel
theorem dX7_keep_68 : decode cX7_keep 68 = .ok (.return_, 1) := by decide +kernel
theorem dX8_init_0 : decode cX8_init 0 = .ok (.aload_n 0, 1) := by decide +kernel
theorem dX8_init_1 : decode cX8_init 1 = .ok (.invokespecial 3, 3) := by decide +kernel
theorem dX8_init_4 : decode cX8_init 4 = .ok (.aload_n 0, 1) := by decide +kernel
theorem dX8_init_5 : decode cX8_init 5 = .ok (.bipush 26, 2) := by decide +kernel
theorem dX8_init_7 : decode cX8_init 7 = .ok (.newarray .int, 2) := by decide +kernel
theorem dX8_init_9 : decode cX8_init 9 = .ok (.putfield 11, 3) := by decide +kernel
theorem dX8_init_12 : decode cX8_init 12 = .ok (.return_, 1) := by decide +kernel
theorem dX8_take_0 : decode cX8_take 0 = .ok (.iconst 0, 1) := by decide +kernel
theorem dX8_take_1 : decode cX8_take 1 = .ok (.istore_n 3, 1) := by decide +kernel
theorem dX8_take_2 : decode cX8_take 2 = .ok (.iconst 0, 1) := by decide +kernel
theorem dX8_take_3 : decode cX8_take 3 = .ok (.istore 4, 2) := by decide +kernel
theorem dX8_take_5 : decode cX8_take 5 = .ok (.iload 4, 2) := by decide +kernel
theorem dX8_take_7 : decode cX8_take 7 = .ok (.bipush 8, 2) := by decide +kernel
theorem dX8_take_9 : decode cX8_take 9 = .ok (.if_icmp .ge 22, 3) := by decide +kernel
theorem dX8_take_12 : decode cX8_take 12 = .ok (.iload_n 1, 1) := by decide +kernel
theorem dX8_take_13 : decode cX8_take 13 = .ok (.iload_n 2, 1) := by decide +kernel
theorem dX8_take_14 : decode cX8_take 14 = .ok (.iload 4, 2) := by decide +kernel
theorem dX8_take_16 : decode cX8_take 16 = .ok (.invokestatic 15, 3) := by decide +kernel
theorem dX8_take_19 : decode cX8_take 19 = .ok (.ifCond .eq 6, 3) := by decide +kernel
theorem dX8_take_22 : decode cX8_take 22 = .ok (.iinc 3 1, 3) := by decide +kernel
theorem dX8_take_25 : decode cX8_take 25 = .ok (.iinc 4 1, 3) := by decide +kernel
theorem dX8_take_28 : decode cX8_take 28 = .ok (.goto (-23), 3) := by decide +kernel
theorem dX8_take_31 : decode cX8_take 31 = .ok (.aload_n 0, 1) := by decide +kernel
theorem dX8_take_32 : decode cX8_take 32 = .ok (.getfield 19, 3) := by decide +kernel
theorem dX8_take_35 : decode cX8_take 35 = .ok (.iload_n 3, 1) := by decide +kernel
theorem dX8_take_36 : decode cX8_take 36 = .ok (.iadd, 1) := by decide +kernel
theorem dX8_take_37 : decode cX8_take 37 = .ok (.bipush 26, 2) := by decide +kernel
theorem dX8_take_39 : decode cX8_take 39 = .ok (.if_icmp .le 5, 3) := by decide +kernel
theorem dX8_take_42 : decode cX8_take 42 = .ok (.iconst (-1), 1) := by decide +kernel
theorem dX8_take_43 : decode cX8_take 43 = .ok (.ireturn, 1) := by decide +kernel
theorem dX8_take_44 : decode cX8_take 44 = .ok (.iconst 0, 1) := by decide +kernel
theorem dX8_take_45 : decode cX8_take 45 = .ok (.istore 4, 2) := by decide +kernel
theorem dX8_take_47 : decode cX8_take 47 = .ok (.iload 4, 2) := by decide +kernel
theorem dX8_take_49 : decode cX8_take 49 = .ok (.bipush 8, 2) := by decide +kernel
theorem dX8_take_51 : decode cX8_take 51 = .ok (.if_icmp .ge 53, 3) := by decide +kernel
theorem dX8_take_54 : decode cX8_take 54 = .ok (.aload_n 0, 1) := by decide +kernel
theorem dX8_take_55 : decode cX8_take 55 = .ok (.getfield 19, 3) := by decide +kernel
theorem dX8_take_58 : decode cX8_take 58 = .ok (.bipush 26, 2) := by decide +kernel
theorem dX8_take_60 : decode cX8_take 60 = .ok (.if_icmp .ge 44, 3) := by decide +kernel
theorem dX8_take_63 : decode cX8_take 63 = .ok (.iload_n 1, 1) := by decide +kernel
theorem dX8_take_64 : decode cX8_take 64 = .ok (.iload_n 2, 1) := by decide +kernel
theorem dX8_take_65 : decode cX8_take 65 = .ok (.iload 4, 2) := by decide +kernel
theorem dX8_take_67 : decode cX8_take 67 = .ok (.invokestatic 15, 3) := by decide +kernel
theorem dX8_take_70 : decode cX8_take 70 = .ok (.istore 5, 2) := by decide +kernel
theorem dX8_take_72 : decode cX8_take 72 = .ok (.iload 5, 2) := by decide +kernel
theorem dX8_take_74 : decode cX8_take 74 = .ok (.ifCond .eq 24, 3) := by decide +kernel
theorem dX8_take_77 : decode cX8_take 77 = .ok (.aload_n 0, 1) := by decide +kernel
theorem dX8_take_78 : decode cX8_take 78 = .ok (.getfield 11, 3) := by decide +kernel
theorem dX8_take_81 : decode cX8_take 81 = .ok (.aload_n 0, 1) := by decide +kernel
theorem dX8_take_82 : decode cX8_take 82 = .ok (.getfield 19, 3) := by decide +kernel
theorem dX8_take_85 : decode cX8_take 85 = .ok (.iload 5, 2) := by decide +kernel
theorem dX8_take_87 : decode cX8_take 87 = .ok (.iastore, 1) := by decide +kernel
theorem dX8_take_88 : decode cX8_take 88 = .ok (.aload_n 0, 1) := by decide +kernel
theorem dX8_take_89 : decode cX8_take 89 = .ok (.dup, 1) := by decide +kernel
theorem dX8_take_90 : decode cX8_take 90 = .ok (.getfield 19, 3) := by decide +kernel
theorem dX8_take_93 : decode cX8_take 93 = .ok (.iconst 1, 1) := by decide +kernel
theorem dX8_take_94 : decode cX8_take 94 = .ok (.iadd, 1) := by decide +kernel
theorem dX8_take_95 : decode cX8_take 95 = .ok (.putfield 19, 3) := by decide +kernel
theorem dX8_take_98 : decode cX8_take 98 = .ok (.iinc 4 1, 3) := by decide +kernel
theorem dX8_take_101 : decode cX8_take 101 = .ok (.goto (-54), 3) := by decide +kernel
theorem dX8_take_104 : decode cX8_take 104 = .ok (.aload_n 0, 1) := by decide +kernel
theorem dX8_take_105 : decode cX8_take 105 = .ok (.getfield 19, 3) := by decide +kernel
theorem dX8_take_108 : decode cX8_take 108 = .ok (.ireturn, 1) := by decide +kernel
theorem dX8_fedByte_0 : decode cX8_fedByte 0 = .ok (.iload_n 2, 1) := by decide +kernel
theorem dX8_fedByte_1 : decode cX8_fedByte 1 = .ok (.iconst 4, 1) := by decide +kernel
theorem dX8_fedByte_2 : decode cX8_fedByte 2 = .ok (.if_icmp .ge 7, 3) := by decide +kernel
theorem dX8_fedByte_5 : decode cX8_fedByte 5 = .ok (.iload_n 0, 1) := by decide +kernel
theorem dX8_fedByte_6 : decode cX8_fedByte 6 = .ok (.goto 4, 3) := by decide +kernel
theorem dX8_fedByte_9 : decode cX8_fedByte 9 = .ok (.iload_n 1, 1) := by decide +kernel
theorem dX8_fedByte_10 : decode cX8_fedByte 10 = .ok (.istore_n 3, 1) := by decide +kernel
theorem dX8_fedByte_11 : decode cX8_fedByte 11 = .ok (.iload_n 3, 1) := by decide +kernel
theorem dX8_fedByte_12 : decode cX8_fedByte 12 = .ok (.bipush 24, 2) := by decide +kernel
theorem dX8_fedByte_14 : decode cX8_fedByte 14 = .ok (.bipush 8, 2) := by decide +kernel
theorem dX8_fedByte_16 : decode cX8_fedByte 16 = .ok (.iload_n 2, 1) := by decide +kernel
theorem dX8_fedByte_17 : decode cX8_fedByte 17 = .ok (.iconst 3, 1) := by decide +kernel
theorem dX8_fedByte_18 : decode cX8_fedByte 18 = .ok (.iand, 1) := by decide +kernel
theorem dX8_fedByte_19 : decode cX8_fedByte 19 = .ok (.imul, 1) := by decide +kernel
theorem dX8_fedByte_20 : decode cX8_fedByte 20 = .ok (.isub, 1) := by decide +kernel
theorem dX8_fedByte_21 : decode cX8_fedByte 21 = .ok (.iushr, 1) := by decide +kernel
theorem dX8_fedByte_22 : decode cX8_fedByte 22 = .ok (.sipush 255, 3) := by decide +kernel
theorem dX8_fedByte_25 : decode cX8_fedByte 25 = .ok (.iand, 1) := by decide +kernel
theorem dX8_fedByte_26 : decode cX8_fedByte 26 = .ok (.ireturn, 1) := by decide +kernel
theorem dX8_cut_0 : decode cX8_cut 0 = .ok (.iload_n 1, 1) := by decide +kernel
theorem dX8_cut_1 : decode cX8_cut 1 = .ok (.iconst 0, 1) := by decide +kernel
theorem dX8_cut_2 : decode cX8_cut 2 = .ok (.aload_n 0, 1) := by decide +kernel
theorem dX8_cut_3 : decode cX8_cut 3 = .ok (.getfield 19, 3) := by decide +kernel
theorem dX8_cut_6 : decode cX8_cut 6 = .ok (.invokestatic 23, 3) := by decide +kernel
theorem dX8_cut_9 : decode cX8_cut 9 = .ok (.ifCond .ne 5, 3) := by decide +kernel
theorem dX8_cut_12 : decode cX8_cut 12 = .ok (.iconst 0, 1) := by decide +kernel
theorem dX8_cut_13 : decode cX8_cut 13 = .ok (.ireturn, 1) := by decide +kernel
theorem dX8_cut_14 : decode cX8_cut 14 = .ok (.aload_n 0, 1) := by decide +kernel
theorem dX8_cut_15 : decode cX8_cut 15 = .ok (.iload_n 1, 1) := by decide +kernel
theorem dX8_cut_16 : decode cX8_cut 16 = .ok (.putfield 19, 3) := by decide +kernel
theorem dX8_cut_19 : decode cX8_cut 19 = .ok (.iconst 1, 1) := by decide +kernel
theorem dX8_cut_20 : decode cX8_cut 20 = .ok (.ireturn, 1) := by decide +kernel
theorem dX8_size_0 : decode cX8_size 0 = .ok (.aload_n 0, 1) := by decide +kernel
theorem dX8_size_1 : decode cX8_size 1 = .ok (.getfield 19, 3) := by decide +kernel
theorem dX8_size_4 : decode cX8_size 4 = .ok (.ireturn, 1) := by decide +kernel
theorem dX8_signAt_0 : decode cX8_signAt 0 = .ok (.iload_n 1, 1) := by decide +kernel
theorem dX8_signAt_1 : decode cX8_signAt 1 = .ok (.ifCond .lt 20, 3) := by decide +kernel
theorem dX8_signAt_4 : decode cX8_signAt 4 = .ok (.iload_n 1, 1) := by decide +kernel
theorem dX8_signAt_5 : decode cX8_signAt 5 = .ok (.aload_n 0, 1) := by decide +kernel
theorem dX8_signAt_6 : decode cX8_signAt 6 = .ok (.getfield 19, 3) := by decide +kernel
theorem dX8_signAt_9 : decode cX8_signAt 9 = .ok (.if_icmp .ge 12, 3) := by decide +kernel
theorem dX8_signAt_12 : decode cX8_signAt 12 = .ok (.aload_n 0, 1) := by decide +kernel
theorem dX8_signAt_13 : decode cX8_signAt 13 = .ok (.getfield 11, 3) := by decide +kernel
theorem dX8_signAt_16 : decode cX8_signAt 16 = .ok (.iload_n 1, 1) := by decide +kernel
theorem dX8_signAt_17 : decode cX8_signAt 17 = .ok (.iaload, 1) := by decide +kernel
theorem dX8_signAt_18 : decode cX8_signAt 18 = .ok (.goto 4, 3) := by decide +kernel
theorem dX8_signAt_21 : decode cX8_signAt 21 = .ok (.iconst 0, 1) := by decide +kernel
theorem dX8_signAt_22 : decode cX8_signAt 22 = .ok (.ireturn, 1) := by decide +kernel
theorem dX8_isWord_0 : decode cX8_isWord 0 = .ok (.aload_n 0, 1) := by decide +kernel
theorem dX8_isWord_1 : decode cX8_isWord 1 = .ok (.getfield 19, 3) := by decide +kernel
theorem dX8_isWord_4 : decode cX8_isWord 4 = .ok (.bipush 12, 2) := by decide +kernel
theorem dX8_isWord_6 : decode cX8_isWord 6 = .ok (.if_icmp .gt 14, 3) := by decide +kernel
theorem dX8_isWord_9 : decode cX8_isWord 9 = .ok (.aload_n 0, 1) := by decide +kernel
theorem dX8_isWord_10 : decode cX8_isWord 10 = .ok (.invokevirtual 27, 3) := by decide +kernel
theorem dX8_isWord_13 : decode cX8_isWord 13 = .ok (.ifCond .eq 7, 3) := by decide +kernel
theorem dX8_isWord_16 : decode cX8_isWord 16 = .ok (.iconst 1, 1) := by decide +kernel
theorem dX8_isWord_17 : decode cX8_isWord 17 = .ok (.goto 4, 3) := by decide +kernel
theorem dX8_isWord_20 : decode cX8_isWord 20 = .ok (.iconst 0, 1) := by decide +kernel
theorem dX8_isWord_21 : decode cX8_isWord 21 = .ok (.ireturn, 1) := by decide +kernel
theorem dX8_isRow_0 : decode cX8_isRow 0 = .ok (.aload_n 0, 1) := by decide +kernel
theorem dX8_isRow_1 : decode cX8_isRow 1 = .ok (.invokevirtual 27, 3) := by decide +kernel
theorem dX8_isRow_4 : decode cX8_isRow 4 = .ok (.ifCond .ne 5, 3) := by decide +kernel
theorem dX8_isRow_7 : decode cX8_isRow 7 = .ok (.iconst 0, 1) := by decide +kernel
theorem dX8_isRow_8 : decode cX8_isRow 8 = .ok (.ireturn, 1) := by decide +kernel
theorem dX8_isRow_9 : decode cX8_isRow 9 = .ok (.iconst 0, 1) := by decide +kernel
theorem dX8_isRow_10 : decode cX8_isRow 10 = .ok (.istore_n 1, 1) := by decide +kernel
theorem dX8_isRow_11 : decode cX8_isRow 11 = .ok (.iconst 0, 1) := by decide +kernel
theorem dX8_isRow_12 : decode cX8_isRow 12 = .ok (.istore_n 2, 1) := by decide +kernel
theorem dX8_isRow_13 : decode cX8_isRow 13 = .ok (.iload_n 2, 1) := by decide +kernel
theorem dX8_isRow_14 : decode cX8_isRow 14 = .ok (.aload_n 0, 1) := by decide +kernel
theorem dX8_isRow_15 : decode cX8_isRow 15 = .ok (.getfield 19, 3) := by decide +kernel
theorem dX8_isRow_18 : decode cX8_isRow 18 = .ok (.if_icmp .ge 33, 3) := by decide +kernel
theorem dX8_isRow_21 : decode cX8_isRow 21 = .ok (.iconst 1, 1) := by decide +kernel
theorem dX8_isRow_22 : decode cX8_isRow 22 = .ok (.aload_n 0, 1) := by decide +kernel
theorem dX8_isRow_23 : decode cX8_isRow 23 = .ok (.getfield 11, 3) := by decide +kernel
theorem dX8_isRow_26 : decode cX8_isRow 26 = .ok (.iload_n 2, 1) := by decide +kernel
theorem dX8_isRow_27 : decode cX8_isRow 27 = .ok (.iaload, 1) := by decide +kernel
theorem dX8_isRow_28 : decode cX8_isRow 28 = .ok (.bipush 97, 2) := by decide +kernel
theorem dX8_isRow_30 : decode cX8_isRow 30 = .ok (.isub, 1) := by decide +kernel
theorem dX8_isRow_31 : decode cX8_isRow 31 = .ok (.ishl, 1) := by decide +kernel
theorem dX8_isRow_32 : decode cX8_isRow 32 = .ok (.istore_n 3, 1) := by decide +kernel
theorem dX8_isRow_33 : decode cX8_isRow 33 = .ok (.iload_n 1, 1) := by decide +kernel
theorem dX8_isRow_34 : decode cX8_isRow 34 = .ok (.iload_n 3, 1) := by decide +kernel
theorem dX8_isRow_35 : decode cX8_isRow 35 = .ok (.iand, 1) := by decide +kernel
theorem dX8_isRow_36 : decode cX8_isRow 36 = .ok (.ifCond .eq 5, 3) := by decide +kernel
theorem dX8_isRow_39 : decode cX8_isRow 39 = .ok (.iconst 0, 1) := by decide +kernel
theorem dX8_isRow_40 : decode cX8_isRow 40 = .ok (.ireturn, 1) := by decide +kernel
theorem dX8_isRow_41 : decode cX8_isRow 41 = .ok (.iload_n 1, 1) := by decide +kernel
theorem dX8_isRow_42 : decode cX8_isRow 42 = .ok (.iload_n 3, 1) := by decide +kernel
theorem dX8_isRow_43 : decode cX8_isRow 43 = .ok (.ior, 1) := by decide +kernel
theorem dX8_isRow_44 : decode cX8_isRow 44 = .ok (.istore_n 1, 1) := by decide +kernel
theorem dX8_isRow_45 : decode cX8_isRow 45 = .ok (.iinc 2 1, 3) := by decide +kernel
theorem dX8_isRow_48 : decode cX8_isRow 48 = .ok (.goto (-35), 3) := by decide +kernel
theorem dX8_isRow_51 : decode cX8_isRow 51 = .ok (.iconst 1, 1) := by decide +kernel
theorem dX8_isRow_52 : decode cX8_isRow 52 = .ok (.ireturn, 1) := by decide +kernel
theorem dX8_lettersAlone_0 : decode cX8_lettersAlone 0 = .ok (.iconst 0, 1) := by decide +kernel
theorem dX8_lettersAlone_1 : decode cX8_lettersAlone 1 = .ok (.istore_n 1, 1) := by decide +kernel
theorem dX8_lettersAlone_2 : decode cX8_lettersAlone 2 = .ok (.iload_n 1, 1) := by decide +kernel
theorem dX8_lettersAlone_3 : decode cX8_lettersAlone 3 = .ok (.aload_n 0, 1) := by decide +kernel
theorem dX8_lettersAlone_4 : decode cX8_lettersAlone 4 = .ok (.getfield 19, 3) := by decide +kernel
theorem dX8_lettersAlone_7 : decode cX8_lettersAlone 7 = .ok (.if_icmp .ge 23, 3) := by decide +kernel
theorem dX8_lettersAlone_10 : decode cX8_lettersAlone 10 = .ok (.aload_n 0, 1) := by decide +kernel
theorem dX8_lettersAlone_11 : decode cX8_lettersAlone 11 = .ok (.getfield 11, 3) := by decide +kernel
theorem dX8_lettersAlone_14 : decode cX8_lettersAlone 14 = .ok (.iload_n 1, 1) := by decide +kernel
theorem dX8_lettersAlone_15 : decode cX8_lettersAlone 15 = .ok (.iaload, 1) := by decide +kernel
theorem dX8_lettersAlone_16 : decode cX8_lettersAlone 16 = .ok (.invokestatic 31, 3) := by decide +kernel
theorem dX8_lettersAlone_19 : decode cX8_lettersAlone 19 = .ok (.ifCond .ne 5, 3) := by decide +kernel
theorem dX8_lettersAlone_22 : decode cX8_lettersAlone 22 = .ok (.iconst 0, 1) := by decide +kernel
theorem dX8_lettersAlone_23 : decode cX8_lettersAlone 23 = .ok (.ireturn, 1) := by decide +kernel
theorem dX8_lettersAlone_24 : decode cX8_lettersAlone 24 = .ok (.iinc 1 1, 3) := by decide +kernel
theorem dX8_lettersAlone_27 : decode cX8_lettersAlone 27 = .ok (.goto (-25), 3) := by decide +kernel
theorem dX8_lettersAlone_30 : decode cX8_lettersAlone 30 = .ok (.aload_n 0, 1) := by decide +kernel
theorem dX8_lettersAlone_31 : decode cX8_lettersAlone 31 = .ok (.getfield 19, 3) := by decide +kernel
theorem dX8_lettersAlone_34 : decode cX8_lettersAlone 34 = .ok (.ifCond .le 7, 3) := by decide +kernel
theorem dX8_lettersAlone_37 : decode cX8_lettersAlone 37 = .ok (.iconst 1, 1) := by decide +kernel
theorem dX8_lettersAlone_38 : decode cX8_lettersAlone 38 = .ok (.goto 4, 3) := by decide +kernel
theorem dX8_lettersAlone_41 : decode cX8_lettersAlone 41 = .ok (.iconst 0, 1) := by decide +kernel
theorem dX8_lettersAlone_42 : decode cX8_lettersAlone 42 = .ok (.ireturn, 1) := by decide +kernel
theorem dJ7_fill_53178_0 : decode cJ7_fill_53178 0 = .ok (.iconst 0, 1) := by decide +kernel
theorem dJ7_fill_53178_1 : decode cJ7_fill_53178 1 = .ok (.istore_n 2, 1) := by decide +kernel
theorem dJ7_fill_53178_2 : decode cJ7_fill_53178 2 = .ok (.aload_n 0, 1) := by decide +kernel
theorem dJ7_fill_53178_3 : decode cJ7_fill_53178 3 = .ok (.arraylength, 1) := by decide +kernel
theorem dJ7_fill_53178_4 : decode cJ7_fill_53178 4 = .ok (.istore_n 3, 1) := by decide +kernel
theorem dJ7_fill_53178_5 : decode cJ7_fill_53178 5 = .ok (.iload_n 2, 1) := by decide +kernel
theorem dJ7_fill_53178_6 : decode cJ7_fill_53178 6 = .ok (.iload_n 3, 1) := by decide +kernel
theorem dJ7_fill_53178_7 : decode cJ7_fill_53178 7 = .ok (.if_icmp .ge 13, 3) := by decide +kernel
theorem dJ7_fill_53178_10 : decode cJ7_fill_53178 10 = .ok (.aload_n 0, 1) := by decide +kernel
theorem dJ7_fill_53178_11 : decode cJ7_fill_53178 11 = .ok (.iload_n 2, 1) := by decide +kernel
theorem dJ7_fill_53178_12 : decode cJ7_fill_53178 12 = .ok (.iload_n 1, 1) := by decide +kernel
theorem dJ7_fill_53178_13 : decode cJ7_fill_53178 13 = .ok (.iastore, 1) := by decide +kernel
theorem dJ7_fill_53178_14 : decode cJ7_fill_53178 14 = .ok (.iinc 2 1, 3) := by decide +kernel
theorem dJ7_fill_53178_17 : decode cJ7_fill_53178 17 = .ok (.goto (-12), 3) := by decide +kernel
theorem dJ7_fill_53178_20 : decode cJ7_fill_53178 20 = .ok (.return_, 1) := by decide +kernel
end
section
theorem dX9_init_0 : decode cX9_init 0 = .ok (.aload_n 0, 1) := by decide +kernel
theorem dX9_init_1 : decode cX9_init 1 = .ok (.invokespecial 3, 3) := by decide +kernel
theorem dX9_init_4 : decode cX9_init 4 = .ok (.aload_n 0, 1) := by decide +kernel
theorem dX9_init_5 : decode cX9_init 5 = .ok (.bipush 60, 2) := by decide +kernel
theorem dX9_init_7 : decode cX9_init 7 = .ok (.newarray .int, 2) := by decide +kernel
theorem dX9_init_9 : decode cX9_init 9 = .ok (.putfield 11, 3) := by decide +kernel
theorem dX9_init_12 : decode cX9_init 12 = .ok (.aload_n 0, 1) := by decide +kernel
theorem dX9_init_13 : decode cX9_init 13 = .ok (.bipush 60, 2) := by decide +kernel
theorem dX9_init_15 : decode cX9_init 15 = .ok (.newarray .int, 2) := by decide +kernel
theorem dX9_init_17 : decode cX9_init 17 = .ok (.putfield 15, 3) := by decide +kernel
theorem dX9_init_20 : decode cX9_init 20 = .ok (.aload_n 0, 1) := by decide +kernel
theorem dX9_init_21 : decode cX9_init 21 = .ok (.bipush 60, 2) := by decide +kernel
theorem dX9_init_23 : decode cX9_init 23 = .ok (.newarray .int, 2) := by decide +kernel
theorem dX9_init_25 : decode cX9_init 25 = .ok (.putfield 18, 3) := by decide +kernel
theorem dX9_init_28 : decode cX9_init 28 = .ok (.aload_n 0, 1) := by decide +kernel
theorem dX9_init_29 : decode cX9_init 29 = .ok (.bipush 60, 2) := by decide +kernel
theorem dX9_init_31 : decode cX9_init 31 = .ok (.newarray .int, 2) := by decide +kernel
theorem dX9_init_33 : decode cX9_init 33 = .ok (.putfield 21, 3) := by decide +kernel
theorem dX9_init_36 : decode cX9_init 36 = .ok (.aload_n 0, 1) := by decide +kernel
theorem dX9_init_37 : decode cX9_init 37 = .ok (.bipush 60, 2) := by decide +kernel
theorem dX9_init_39 : decode cX9_init 39 = .ok (.newarray .int, 2) := by decide +kernel
theorem dX9_init_41 : decode cX9_init 41 = .ok (.putfield 24, 3) := by decide +kernel
theorem dX9_init_44 : decode cX9_init 44 = .ok (.aload_n 0, 1) := by decide +kernel
theorem dX9_init_45 : decode cX9_init 45 = .ok (.bipush 60, 2) := by decide +kernel
theorem dX9_init_47 : decode cX9_init 47 = .ok (.newarray .int, 2) := by decide +kernel
theorem dX9_init_49 : decode cX9_init 49 = .ok (.putfield 27, 3) := by decide +kernel
theorem dX9_init_52 : decode cX9_init 52 = .ok (.aload_n 0, 1) := by decide +kernel
theorem dX9_init_53 : decode cX9_init 53 = .ok (.bipush 60, 2) := by decide +kernel
theorem dX9_init_55 : decode cX9_init 55 = .ok (.newarray .int, 2) := by decide +kernel
theorem dX9_init_57 : decode cX9_init 57 = .ok (.putfield 30, 3) := by decide +kernel
theorem dX9_init_60 : decode cX9_init 60 = .ok (.aload_n 0, 1) := by decide +kernel
theorem dX9_init_61 : decode cX9_init 61 = .ok (.bipush 60, 2) := by decide +kernel
theorem dX9_init_63 : decode cX9_init 63 = .ok (.newarray .int, 2) := by decide +kernel
theorem dX9_init_65 : decode cX9_init 65 = .ok (.putfield 33, 3) := by decide +kernel
theorem dX9_init_68 : decode cX9_init 68 = .ok (.aload_n 0, 1) := by decide +kernel
theorem dX9_init_69 : decode cX9_init 69 = .ok (.bipush 60, 2) := by decide +kernel
theorem dX9_init_71 : decode cX9_init 71 = .ok (.newarray .boolean, 2) := by decide +kernel
theorem dX9_init_73 : decode cX9_init 73 = .ok (.putfield 36, 3) := by decide +kernel
theorem dX9_init_76 : decode cX9_init 76 = .ok (.aload_n 0, 1) := by decide +kernel
theorem dX9_init_77 : decode cX9_init 77 = .ok (.bipush 26, 2) := by decide +kernel
theorem dX9_init_79 : decode cX9_init 79 = .ok (.newarray .int, 2) := by decide +kernel
theorem dX9_init_81 : decode cX9_init 81 = .ok (.putfield 40, 3) := by decide +kernel
theorem dX9_init_84 : decode cX9_init 84 = .ok (.aload_n 0, 1) := by decide +kernel
theorem dX9_init_85 : decode cX9_init 85 = .ok (.invokevirtual 43, 3) := by decide +kernel
theorem dX9_init_88 : decode cX9_init 88 = .ok (.aload_n 0, 1) := by decide +kernel
theorem dX9_init_89 : decode cX9_init 89 = .ok (.invokevirtual 46, 3) := by decide +kernel
theorem dX9_init_92 : decode cX9_init 92 = .ok (.return_, 1) := by decide +kernel
theorem dX9_empty_0 : decode cX9_empty 0 = .ok (.aload_n 0, 1) := by decide +kernel
theorem dX9_empty_1 : decode cX9_empty 1 = .ok (.getfield 11, 3) := by decide +kernel
theorem dX9_empty_4 : decode cX9_empty 4 = .ok (.iconst 0, 1) := by decide +kernel
theorem dX9_empty_5 : decode cX9_empty 5 = .ok (.iconst 0, 1) := by decide +kernel
theorem dX9_empty_6 : decode cX9_empty 6 = .ok (.iastore, 1) := by decide +kernel
theorem dX9_empty_7 : decode cX9_empty 7 = .ok (.aload_n 0, 1) := by decide +kernel
theorem dX9_empty_8 : decode cX9_empty 8 = .ok (.getfield 15, 3) := by decide +kernel
theorem dX9_empty_11 : decode cX9_empty 11 = .ok (.iconst 0, 1) := by decide +kernel
theorem dX9_empty_12 : decode cX9_empty 12 = .ok (.iconst (-1), 1) := by decide +kernel
theorem dX9_empty_13 : decode cX9_empty 13 = .ok (.iastore, 1) := by decide +kernel
theorem dX9_empty_14 : decode cX9_empty 14 = .ok (.aload_n 0, 1) := by decide +kernel
theorem dX9_empty_15 : decode cX9_empty 15 = .ok (.getfield 18, 3) := by decide +kernel
theorem dX9_empty_18 : decode cX9_empty 18 = .ok (.iconst 0, 1) := by decide +kernel
theorem dX9_empty_19 : decode cX9_empty 19 = .ok (.iconst (-1), 1) := by decide +kernel
theorem dX9_empty_20 : decode cX9_empty 20 = .ok (.iastore, 1) := by decide +kernel
theorem dX9_empty_21 : decode cX9_empty 21 = .ok (.aload_n 0, 1) := by decide +kernel
theorem dX9_empty_22 : decode cX9_empty 22 = .ok (.iconst 1, 1) := by decide +kernel
theorem dX9_empty_23 : decode cX9_empty 23 = .ok (.putfield 49, 3) := by decide +kernel
theorem dX9_empty_26 : decode cX9_empty 26 = .ok (.return_, 1) := by decide +kernel
theorem dX9_add_0 : decode cX9_add 0 = .ok (.aload_n 0, 1) := by decide +kernel
theorem dX9_add_1 : decode cX9_add 1 = .ok (.getfield 49, 3) := by decide +kernel
theorem dX9_add_4 : decode cX9_add 4 = .ok (.bipush 60, 2) := by decide +kernel
theorem dX9_add_6 : decode cX9_add 6 = .ok (.if_icmp .ge 19, 3) := by decide +kernel
theorem dX9_add_9 : decode cX9_add 9 = .ok (.aload_n 0, 1) := by decide +kernel
theorem dX9_add_10 : decode cX9_add 10 = .ok (.iload_n 1, 1) := by decide +kernel
theorem dX9_add_11 : decode cX9_add 11 = .ok (.invokevirtual 53, 3) := by decide +kernel
theorem dX9_add_14 : decode cX9_add 14 = .ok (.ifCond .ne 11, 3) := by decide +kernel
theorem dX9_add_17 : decode cX9_add 17 = .ok (.iload_n 2, 1) := by decide +kernel
theorem dX9_add_18 : decode cX9_add 18 = .ok (.iload_n 3, 1) := by decide +kernel
theorem dX9_add_19 : decode cX9_add 19 = .ok (.invokestatic 57, 3) := by decide +kernel
theorem dX9_add_22 : decode cX9_add 22 = .ok (.ifCond .ne 5, 3) := by decide +kernel
theorem dX9_add_25 : decode cX9_add 25 = .ok (.iconst (-1), 1) := by decide +kernel
theorem dX9_add_26 : decode cX9_add 26 = .ok (.ireturn, 1) := by decide +kernel
theorem dX9_add_27 : decode cX9_add 27 = .ok (.aload_n 0, 1) := by decide +kernel
theorem dX9_add_28 : decode cX9_add 28 = .ok (.getfield 11, 3) := by decide +kernel
theorem dX9_add_31 : decode cX9_add 31 = .ok (.aload_n 0, 1) := by decide +kernel
theorem dX9_add_32 : decode cX9_add 32 = .ok (.getfield 49, 3) := by decide +kernel
theorem dX9_add_35 : decode cX9_add 35 = .ok (.iload_n 2, 1) := by decide +kernel
theorem dX9_add_36 : decode cX9_add 36 = .ok (.iastore, 1) := by decide +kernel
theorem dX9_add_37 : decode cX9_add 37 = .ok (.aload_n 0, 1) := by decide +kernel
theorem dX9_add_38 : decode cX9_add 38 = .ok (.getfield 15, 3) := by decide +kernel
theorem dX9_add_41 : decode cX9_add 41 = .ok (.aload_n 0, 1) := by decide +kernel
theorem dX9_add_42 : decode cX9_add 42 = .ok (.getfield 49, 3) := by decide +kernel
theorem dX9_add_45 : decode cX9_add 45 = .ok (.iload_n 2, 1) := by decide +kernel
theorem dX9_add_46 : decode cX9_add 46 = .ok (.invokestatic 61, 3) := by decide +kernel
theorem dX9_add_49 : decode cX9_add 49 = .ok (.ifCond .eq 7, 3) := by decide +kernel
theorem dX9_add_52 : decode cX9_add 52 = .ok (.iload_n 3, 1) := by decide +kernel
theorem dX9_add_53 : decode cX9_add 53 = .ok (.goto 4, 3) := by decide +kernel
theorem dX9_add_56 : decode cX9_add 56 = .ok (.iconst (-1), 1) := by decide +kernel
theorem dX9_add_57 : decode cX9_add 57 = .ok (.iastore, 1) := by decide +kernel
theorem dX9_add_58 : decode cX9_add 58 = .ok (.aload_n 0, 1) := by decide +kernel
theorem dX9_add_59 : decode cX9_add 59 = .ok (.getfield 18, 3) := by decide +kernel
theorem dX9_add_62 : decode cX9_add 62 = .ok (.aload_n 0, 1) := by decide +kernel
theorem dX9_add_63 : decode cX9_add 63 = .ok (.getfield 49, 3) := by decide +kernel
theorem dX9_add_66 : decode cX9_add 66 = .ok (.iload_n 1, 1) := by decide +kernel
theorem dX9_add_67 : decode cX9_add 67 = .ok (.iastore, 1) := by decide +kernel
theorem dX9_add_68 : decode cX9_add 68 = .ok (.aload_n 0, 1) := by decide +kernel
theorem dX9_add_69 : decode cX9_add 69 = .ok (.dup, 1) := by decide +kernel
theorem dX9_add_70 : decode cX9_add 70 = .ok (.getfield 49, 3) := by decide +kernel
theorem dX9_add_73 : decode cX9_add 73 = .ok (.iconst 1, 1) := by decide +kernel
theorem dX9_add_74 : decode cX9_add 74 = .ok (.iadd, 1) := by decide +kernel
theorem dX9_add_75 : decode cX9_add 75 = .ok (.putfield 49, 3) := by decide +kernel
theorem dX9_add_78 : decode cX9_add 78 = .ok (.aload_n 0, 1) := by decide +kernel
theorem dX9_add_79 : decode cX9_add 79 = .ok (.getfield 49, 3) := by decide +kernel
theorem dX9_add_82 : decode cX9_add 82 = .ok (.iconst 1, 1) := by decide +kernel
theorem dX9_add_83 : decode cX9_add 83 = .ok (.isub, 1) := by decide +kernel
theorem dX9_add_84 : decode cX9_add 84 = .ok (.ireturn, 1) := by decide +kernel
theorem dX9_takes_0 : decode cX9_takes 0 = .ok (.iload_n 0, 1) := by decide +kernel
theorem dX9_takes_1 : decode cX9_takes 1 = .ok (.iconst 1, 1) := by decide +kernel
theorem dX9_takes_2 : decode cX9_takes 2 = .ok (.if_icmp .ne 22, 3) := by decide +kernel
theorem dX9_takes_5 : decode cX9_takes 5 = .ok (.iload_n 1, 1) := by decide +kernel
theorem dX9_takes_6 : decode cX9_takes 6 = .ok (.invokestatic 65, 3) := by decide +kernel
theorem dX9_takes_9 : decode cX9_takes 9 = .ok (.ifCond .ne 9, 3) := by decide +kernel
theorem dX9_takes_12 : decode cX9_takes 12 = .ok (.iload_n 1, 1) := by decide +kernel
theorem dX9_takes_13 : decode cX9_takes 13 = .ok (.bipush 32, 2) := by decide +kernel
theorem dX9_takes_15 : decode cX9_takes 15 = .ok (.if_icmp .ne 7, 3) := by decide +kernel
theorem dX9_takes_18 : decode cX9_takes 18 = .ok (.iconst 1, 1) := by decide +kernel
theorem dX9_takes_19 : decode cX9_takes 19 = .ok (.goto 4, 3) := by decide +kernel
theorem dX9_takes_22 : decode cX9_takes 22 = .ok (.iconst 0, 1) := by decide +kernel
theorem dX9_takes_23 : decode cX9_takes 23 = .ok (.ireturn, 1) := by decide +kernel
theorem dX9_takes_24 : decode cX9_takes 24 = .ok (.iload_n 0, 1) := by decide +kernel
theorem dX9_takes_25 : decode cX9_takes 25 = .ok (.iconst 0, 1) := by decide +kernel
theorem dX9_takes_26 : decode cX9_takes 26 = .ok (.bipush 6, 2) := by decide +kernel
theorem dX9_takes_28 : decode cX9_takes 28 = .ok (.invokestatic 68, 3) := by decide +kernel
theorem dX9_takes_31 : decode cX9_takes 31 = .ok (.ifCond .eq 23, 3) := by decide +kernel
theorem dX9_takes_34 : decode cX9_takes 34 = .ok (.iload_n 0, 1) := by decide +kernel
theorem dX9_takes_35 : decode cX9_takes 35 = .ok (.invokestatic 61, 3) := by decide +kernel
theorem dX9_takes_38 : decode cX9_takes 38 = .ok (.ifCond .eq 12, 3) := by decide +kernel
theorem dX9_takes_41 : decode cX9_takes 41 = .ok (.iload_n 1, 1) := by decide +kernel
theorem dX9_takes_42 : decode cX9_takes 42 = .ok (.iconst 0, 1) := by decide +kernel
theorem dX9_takes_43 : decode cX9_takes 43 = .ok (.iconst 4, 1) := by decide +kernel
theorem dX9_takes_44 : decode cX9_takes 44 = .ok (.invokestatic 68, 3) := by decide +kernel
theorem dX9_takes_47 : decode cX9_takes 47 = .ok (.ifCond .eq 7, 3) := by decide +kernel
theorem dX9_takes_50 : decode cX9_takes 50 = .ok (.iconst 1, 1) := by decide +kernel
theorem dX9_takes_51 : decode cX9_takes 51 = .ok (.goto 4, 3) := by decide +kernel
theorem dX9_takes_54 : decode cX9_takes 54 = .ok (.iconst 0, 1) := by decide +kernel
theorem dX9_takes_55 : decode cX9_takes 55 = .ok (.ireturn, 1) := by decide +kernel
theorem dX9_hasValue_0 : decode cX9_hasValue 0 = .ok (.iload_n 0, 1) := by decide +kernel
theorem dX9_hasValue_1 : decode cX9_hasValue 1 = .ok (.iconst 1, 1) := by decide +kernel
theorem dX9_hasValue_2 : decode cX9_hasValue 2 = .ok (.if_icmp .eq 14, 3) := by decide +kernel
theorem dX9_hasValue_5 : decode cX9_hasValue 5 = .ok (.iload_n 0, 1) := by decide +kernel
theorem dX9_hasValue_6 : decode cX9_hasValue 6 = .ok (.iconst 4, 1) := by decide +kernel
theorem dX9_hasValue_7 : decode cX9_hasValue 7 = .ok (.if_icmp .eq 9, 3) := by decide +kernel
theorem dX9_hasValue_10 : decode cX9_hasValue 10 = .ok (.iload_n 0, 1) := by decide +kernel
theorem dX9_hasValue_11 : decode cX9_hasValue 11 = .ok (.bipush 6, 2) := by decide +kernel
theorem dX9_hasValue_13 : decode cX9_hasValue 13 = .ok (.if_icmp .ne 7, 3) := by decide +kernel
theorem dX9_hasValue_16 : decode cX9_hasValue 16 = .ok (.iconst 1, 1) := by decide +kernel
theorem dX9_hasValue_17 : decode cX9_hasValue 17 = .ok (.goto 4, 3) := by decide +kernel
theorem dX9_hasValue_20 : decode cX9_hasValue 20 = .ok (.iconst 0, 1) := by decide +kernel
theorem dX9_hasValue_21 : decode cX9_hasValue 21 = .ok (.ireturn, 1) := by decide +kernel
theorem dX9_findLights_0 : decode cX9_findLights 0 = .ok (.aload_n 0, 1) := by decide +kernel
theorem dX9_findLights_1 : decode cX9_findLights 1 = .ok (.invokevirtual 72, 3) := by decide +kernel
theorem dX9_findLights_4 : decode cX9_findLights 4 = .ok (.aload_n 0, 1) := by decide +kernel
theorem dX9_findLights_5 : decode cX9_findLights 5 = .ok (.getfield 24, 3) := by decide +kernel
theorem dX9_findLights_8 : decode cX9_findLights 8 = .ok (.iconst 0, 1) := by decide +kernel
theorem dX9_findLights_9 : decode cX9_findLights 9 = .ok (.invokestatic 75, 3) := by decide +kernel
theorem dX9_findLights_12 : decode cX9_findLights 12 = .ok (.aload_n 0, 1) := by decide +kernel
theorem dX9_findLights_13 : decode cX9_findLights 13 = .ok (.getfield 21, 3) := by decide +kernel
theorem dX9_findLights_16 : decode cX9_findLights 16 = .ok (.iconst (-1), 1) := by decide +kernel
theorem dX9_findLights_17 : decode cX9_findLights 17 = .ok (.invokestatic 75, 3) := by decide +kernel
theorem dX9_findLights_20 : decode cX9_findLights 20 = .ok (.aload_n 0, 1) := by decide +kernel
theorem dX9_findLights_21 : decode cX9_findLights 21 = .ok (.getfield 27, 3) := by decide +kernel
theorem dX9_findLights_24 : decode cX9_findLights 24 = .ok (.iconst (-1), 1) := by decide +kernel
theorem dX9_findLights_25 : decode cX9_findLights 25 = .ok (.invokestatic 75, 3) := by decide +kernel
theorem dX9_findLights_28 : decode cX9_findLights 28 = .ok (.aload_n 0, 1) := by decide +kernel
theorem dX9_findLights_29 : decode cX9_findLights 29 = .ok (.getfield 30, 3) := by decide +kernel
theorem dX9_findLights_32 : decode cX9_findLights 32 = .ok (.iconst (-1), 1) := by decide +kernel
theorem dX9_findLights_33 : decode cX9_findLights 33 = .ok (.invokestatic 75, 3) := by decide +kernel
theorem dX9_findLights_36 : decode cX9_findLights 36 = .ok (.aload_n 0, 1) := by decide +kernel
theorem dX9_findLights_37 : decode cX9_findLights 37 = .ok (.getfield 33, 3) := by decide +kernel
theorem dX9_findLights_40 : decode cX9_findLights 40 = .ok (.iconst (-1), 1) := by decide +kernel
theorem dX9_findLights_41 : decode cX9_findLights 41 = .ok (.invokestatic 75, 3) := by decide +kernel
theorem dX9_findLights_44 : decode cX9_findLights 44 = .ok (.aload_n 0, 1) := by decide +kernel
theorem dX9_findLights_45 : decode cX9_findLights 45 = .ok (.getfield 40, 3) := by decide +kernel
theorem dX9_findLights_48 : decode cX9_findLights 48 = .ok (.iconst 0, 1) := by decide +kernel
theorem dX9_findLights_49 : decode cX9_findLights 49 = .ok (.invokestatic 75, 3) := by decide +kernel
theorem dX9_findLights_52 : decode cX9_findLights 52 = .ok (.iconst 1, 1) := by decide +kernel
theorem dX9_findLights_53 : decode cX9_findLights 53 = .ok (.istore_n 1, 1) := by decide +kernel
theorem dX9_findLights_54 : decode cX9_findLights 54 = .ok (.iload_n 1, 1) := by decide +kernel
theorem dX9_findLights_55 : decode cX9_findLights 55 = .ok (.aload_n 0, 1) := by decide +kernel
theorem dX9_findLights_56 : decode cX9_findLights 56 = .ok (.getfield 49, 3) := by decide +kernel
theorem dX9_findLights_59 : decode cX9_findLights 59 = .ok (.if_icmp .ge 42, 3) := by decide +kernel
theorem dX9_findLights_62 : decode cX9_findLights 62 = .ok (.aload_n 0, 1) := by decide +kernel
theorem dX9_findLights_63 : decode cX9_findLights 63 = .ok (.getfield 36, 3) := by decide +kernel
theorem dX9_findLights_66 : decode cX9_findLights 66 = .ok (.iload_n 1, 1) := by decide +kernel
theorem dX9_findLights_67 : decode cX9_findLights 67 = .ok (.baload, 1) := by decide +kernel
theorem dX9_findLights_68 : decode cX9_findLights 68 = .ok (.ifCond .eq 27, 3) := by decide +kernel
theorem dX9_findLights_71 : decode cX9_findLights 71 = .ok (.aload_n 0, 1) := by decide +kernel
theorem dX9_findLights_72 : decode cX9_findLights 72 = .ok (.aload_n 0, 1) := by decide +kernel
theorem dX9_findLights_73 : decode cX9_findLights 73 = .ok (.getfield 18, 3) := by decide +kernel
theorem dX9_findLights_76 : decode cX9_findLights 76 = .ok (.iload_n 1, 1) := by decide +kernel
theorem dX9_findLights_77 : decode cX9_findLights 77 = .ok (.iaload, 1) := by decide +kernel
theorem dX9_findLights_78 : decode cX9_findLights 78 = .ok (.invokevirtual 81, 3) := by decide +kernel
theorem dX9_findLights_81 : decode cX9_findLights 81 = .ok (.ifCond .eq 14, 3) := by decide +kernel
theorem dX9_findLights_84 : decode cX9_findLights 84 = .ok (.aload_n 0, 1) := by decide +kernel
theorem dX9_findLights_85 : decode cX9_findLights 85 = .ok (.iload_n 1, 1) := by decide +kernel
theorem dX9_findLights_86 : decode cX9_findLights 86 = .ok (.aload_n 0, 1) := by decide +kernel
theorem dX9_findLights_87 : decode cX9_findLights 87 = .ok (.getfield 18, 3) := by decide +kernel
theorem dX9_findLights_90 : decode cX9_findLights 90 = .ok (.iload_n 1, 1) := by decide +kernel
theorem dX9_findLights_91 : decode cX9_findLights 91 = .ok (.iaload, 1) := by decide +kernel
theorem dX9_findLights_92 : decode cX9_findLights 92 = .ok (.invokevirtual 84, 3) := by decide +kernel
theorem dX9_findLights_95 : decode cX9_findLights 95 = .ok (.iinc 1 1, 3) := by decide +kernel
theorem dX9_findLights_98 : decode cX9_findLights 98 = .ok (.goto (-44), 3) := by decide +kernel
theorem dX9_findLights_101 : decode cX9_findLights 101 = .ok (.return_, 1) := by decide +kernel
theorem dX9_findLighted_0 : decode cX9_findLighted 0 = .ok (.iconst 0, 1) := by decide +kernel
theorem dX9_findLighted_1 : decode cX9_findLighted 1 = .ok (.istore_n 1, 1) := by decide +kernel
theorem dX9_findLighted_2 : decode cX9_findLighted 2 = .ok (.iload_n 1, 1) := by decide +kernel
theorem dX9_findLighted_3 : decode cX9_findLighted 3 = .ok (.aload_n 0, 1) := by decide +kernel
theorem dX9_findLighted_4 : decode cX9_findLighted 4 = .ok (.getfield 49, 3) := by decide +kernel
theorem dX9_findLighted_7 : decode cX9_findLighted 7 = .ok (.if_icmp .ge 29, 3) := by decide +kernel
theorem dX9_findLighted_10 : decode cX9_findLighted 10 = .ok (.aload_n 0, 1) := by decide +kernel
theorem dX9_findLighted_11 : decode cX9_findLighted 11 = .ok (.getfield 36, 3) := by decide +kernel
theorem dX9_findLighted_14 : decode cX9_findLighted 14 = .ok (.iload_n 1, 1) := by decide +kernel
theorem dX9_findLighted_15 : decode cX9_findLighted 15 = .ok (.aload_n 0, 1) := by decide +kernel
theorem dX9_findLighted_16 : decode cX9_findLighted 16 = .ok (.getfield 11, 3) := by decide +kernel
theorem dX9_findLighted_19 : decode cX9_findLighted 19 = .ok (.iload_n 1, 1) := by decide +kernel
theorem dX9_findLighted_20 : decode cX9_findLighted 20 = .ok (.iaload, 1) := by decide +kernel
theorem dX9_findLighted_21 : decode cX9_findLighted 21 = .ok (.ifCond .eq 7, 3) := by decide +kernel
theorem dX9_findLighted_24 : decode cX9_findLighted 24 = .ok (.iconst 1, 1) := by decide +kernel
theorem dX9_findLighted_25 : decode cX9_findLighted 25 = .ok (.goto 4, 3) := by decide +kernel
theorem dX9_findLighted_28 : decode cX9_findLighted 28 = .ok (.iconst 0, 1) := by decide +kernel
theorem dX9_findLighted_29 : decode cX9_findLighted 29 = .ok (.bastore, 1) := by decide +kernel
theorem dX9_findLighted_30 : decode cX9_findLighted 30 = .ok (.iinc 1 1, 3) := by decide +kernel
theorem dX9_findLighted_33 : decode cX9_findLighted 33 = .ok (.goto (-31), 3) := by decide +kernel
theorem dX9_findLighted_36 : decode cX9_findLighted 36 = .ok (.aload_n 0, 1) := by decide +kernel
theorem dX9_findLighted_37 : decode cX9_findLighted 37 = .ok (.getfield 49, 3) := by decide +kernel
theorem dX9_findLighted_40 : decode cX9_findLighted 40 = .ok (.iconst 1, 1) := by decide +kernel
theorem dX9_findLighted_41 : decode cX9_findLighted 41 = .ok (.isub, 1) := by decide +kernel
theorem dX9_findLighted_42 : decode cX9_findLighted 42 = .ok (.istore_n 1, 1) := by decide +kernel
theorem dX9_findLighted_43 : decode cX9_findLighted 43 = .ok (.iload_n 1, 1) := by decide +kernel
theorem dX9_findLighted_44 : decode cX9_findLighted 44 = .ok (.ifCond .le 43, 3) := by decide +kernel
theorem dX9_findLighted_47 : decode cX9_findLighted 47 = .ok (.aload_n 0, 1) := by decide +kernel
theorem dX9_findLighted_48 : decode cX9_findLighted 48 = .ok (.getfield 36, 3) := by decide +kernel
theorem dX9_findLighted_51 : decode cX9_findLighted 51 = .ok (.iload_n 1, 1) := by decide +kernel
theorem dX9_findLighted_52 : decode cX9_findLighted 52 = .ok (.baload, 1) := by decide +kernel
theorem dX9_findLighted_53 : decode cX9_findLighted 53 = .ok (.ifCond .eq 28, 3) := by decide +kernel
theorem dX9_findLighted_56 : decode cX9_findLighted 56 = .ok (.aload_n 0, 1) := by decide +kernel
theorem dX9_findLighted_57 : decode cX9_findLighted 57 = .ok (.aload_n 0, 1) := by decide +kernel
theorem dX9_findLighted_58 : decode cX9_findLighted 58 = .ok (.getfield 18, 3) := by decide +kernel
theorem dX9_findLighted_61 : decode cX9_findLighted 61 = .ok (.iload_n 1, 1) := by decide +kernel
theorem dX9_findLighted_62 : decode cX9_findLighted 62 = .ok (.iaload, 1) := by decide +kernel
theorem dX9_findLighted_63 : decode cX9_findLighted 63 = .ok (.invokevirtual 81, 3) := by decide +kernel
theorem dX9_findLighted_66 : decode cX9_findLighted 66 = .ok (.ifCond .eq 15, 3) := by decide +kernel
theorem dX9_findLighted_69 : decode cX9_findLighted 69 = .ok (.aload_n 0, 1) := by decide +kernel
theorem dX9_findLighted_70 : decode cX9_findLighted 70 = .ok (.getfield 36, 3) := by decide +kernel
theorem dX9_findLighted_73 : decode cX9_findLighted 73 = .ok (.aload_n 0, 1) := by decide +kernel
theorem dX9_findLighted_74 : decode cX9_findLighted 74 = .ok (.getfield 18, 3) := by decide +kernel
theorem dX9_findLighted_77 : decode cX9_findLighted 77 = .ok (.iload_n 1, 1) := by decide +kernel
theorem dX9_findLighted_78 : decode cX9_findLighted 78 = .ok (.iaload, 1) := by decide +kernel
theorem dX9_findLighted_79 : decode cX9_findLighted 79 = .ok (.iconst 1, 1) := by decide +kernel
theorem dX9_findLighted_80 : decode cX9_findLighted 80 = .ok (.bastore, 1) := by decide +kernel
theorem dX9_findLighted_81 : decode cX9_findLighted 81 = .ok (.iinc 1 (-1), 3) := by decide +kernel
theorem dX9_findLighted_84 : decode cX9_findLighted 84 = .ok (.goto (-41), 3) := by decide +kernel
theorem dX9_findLighted_87 : decode cX9_findLighted 87 = .ok (.return_, 1) := by decide +kernel
theorem dX9_standBehind_0 : decode cX9_standBehind 0 = .ok (.aload_n 0, 1) := by decide +kernel
theorem dX9_standBehind_1 : decode cX9_standBehind 1 = .ok (.getfield 30, 3) := by decide +kernel
theorem dX9_standBehind_4 : decode cX9_standBehind 4 = .ok (.iload_n 2, 1) := by decide +kernel
theorem dX9_standBehind_5 : decode cX9_standBehind 5 = .ok (.iaload, 1) := by decide +kernel
theorem dX9_standBehind_6 : decode cX9_standBehind 6 = .ok (.istore_n 3, 1) := by decide +kernel
theorem dX9_standBehind_7 : decode cX9_standBehind 7 = .ok (.aload_n 0, 1) := by decide +kernel
theorem dX9_standBehind_8 : decode cX9_standBehind 8 = .ok (.getfield 24, 3) := by decide +kernel
theorem dX9_standBehind_11 : decode cX9_standBehind 11 = .ok (.iload_n 2, 1) := by decide +kernel
theorem dX9_standBehind_12 : decode cX9_standBehind 12 = .ok (.dup2, 1) := by decide +kernel
theorem dX9_standBehind_13 : decode cX9_standBehind 13 = .ok (.iaload, 1) := by decide +kernel
theorem dX9_standBehind_14 : decode cX9_standBehind 14 = .ok (.iconst 1, 1) := by decide +kernel
theorem dX9_standBehind_15 : decode cX9_standBehind 15 = .ok (.iadd, 1) := by decide +kernel
theorem dX9_standBehind_16 : decode cX9_standBehind 16 = .ok (.iastore, 1) := by decide +kernel
theorem dX9_standBehind_17 : decode cX9_standBehind 17 = .ok (.aload_n 0, 1) := by decide +kernel
theorem dX9_standBehind_18 : decode cX9_standBehind 18 = .ok (.getfield 21, 3) := by decide +kernel
theorem dX9_standBehind_21 : decode cX9_standBehind 21 = .ok (.iload_n 1, 1) := by decide +kernel
theorem dX9_standBehind_22 : decode cX9_standBehind 22 = .ok (.aload_n 0, 1) := by decide +kernel
theorem dX9_standBehind_23 : decode cX9_standBehind 23 = .ok (.getfield 24, 3) := by decide +kernel
theorem dX9_standBehind_26 : decode cX9_standBehind 26 = .ok (.iload_n 2, 1) := by decide +kernel
theorem dX9_standBehind_27 : decode cX9_standBehind 27 = .ok (.iaload, 1) := by decide +kernel
theorem dX9_standBehind_28 : decode cX9_standBehind 28 = .ok (.iastore, 1) := by decide +kernel
theorem dX9_standBehind_29 : decode cX9_standBehind 29 = .ok (.aload_n 0, 1) := by decide +kernel
theorem dX9_standBehind_30 : decode cX9_standBehind 30 = .ok (.getfield 30, 3) := by decide +kernel
theorem dX9_standBehind_33 : decode cX9_standBehind 33 = .ok (.iload_n 2, 1) := by decide +kernel
theorem dX9_standBehind_34 : decode cX9_standBehind 34 = .ok (.iload_n 1, 1) := by decide +kernel
theorem dX9_standBehind_35 : decode cX9_standBehind 35 = .ok (.iastore, 1) := by decide +kernel
theorem dX9_standBehind_36 : decode cX9_standBehind 36 = .ok (.aload_n 0, 1) := by decide +kernel
theorem dX9_standBehind_37 : decode cX9_standBehind 37 = .ok (.iload_n 3, 1) := by decide +kernel
theorem dX9_standBehind_38 : decode cX9_standBehind 38 = .ok (.invokevirtual 81, 3) := by decide +kernel
theorem dX9_standBehind_41 : decode cX9_standBehind 41 = .ok (.ifCond .eq 19, 3) := by decide +kernel
theorem dX9_standBehind_44 : decode cX9_standBehind 44 = .ok (.aload_n 0, 1) := by decide +kernel
theorem dX9_standBehind_45 : decode cX9_standBehind 45 = .ok (.getfield 33, 3) := by decide +kernel
theorem dX9_standBehind_48 : decode cX9_standBehind 48 = .ok (.iload_n 3, 1) := by decide +kernel
theorem dX9_standBehind_49 : decode cX9_standBehind 49 = .ok (.iload_n 1, 1) := by decide +kernel
theorem dX9_standBehind_50 : decode cX9_standBehind 50 = .ok (.iastore, 1) := by decide +kernel
theorem dX9_standBehind_51 : decode cX9_standBehind 51 = .ok (.aload_n 0, 1) := by decide +kernel
theorem dX9_standBehind_52 : decode cX9_standBehind 52 = .ok (.iload_n 3, 1) := by decide +kernel
theorem dX9_standBehind_53 : decode cX9_standBehind 53 = .ok (.iload_n 1, 1) := by decide +kernel
theorem dX9_standBehind_54 : decode cX9_standBehind 54 = .ok (.invokevirtual 88, 3) := by decide +kernel
theorem dX9_standBehind_57 : decode cX9_standBehind 57 = .ok (.goto 10, 3) := by decide +kernel
theorem dX9_standBehind_60 : decode cX9_standBehind 60 = .ok (.aload_n 0, 1) := by decide +kernel
theorem dX9_standBehind_61 : decode cX9_standBehind 61 = .ok (.getfield 27, 3) := by decide +kernel
theorem dX9_standBehind_64 : decode cX9_standBehind 64 = .ok (.iload_n 2, 1) := by decide +kernel
theorem dX9_standBehind_65 : decode cX9_standBehind 65 = .ok (.iload_n 1, 1) := by decide +kernel
theorem dX9_standBehind_66 : decode cX9_standBehind 66 = .ok (.iastore, 1) := by decide +kernel
theorem dX9_standBehind_67 : decode cX9_standBehind 67 = .ok (.return_, 1) := by decide +kernel
theorem dX9_join_0 : decode cX9_join 0 = .ok (.aload_n 0, 1) := by decide +kernel
theorem dX9_join_1 : decode cX9_join 1 = .ok (.getfield 11, 3) := by decide +kernel
theorem dX9_join_4 : decode cX9_join 4 = .ok (.iload_n 1, 1) := by decide +kernel
theorem dX9_join_5 : decode cX9_join 5 = .ok (.iaload, 1) := by decide +kernel
theorem dX9_join_6 : decode cX9_join 6 = .ok (.iconst 1, 1) := by decide +kernel
theorem dX9_join_7 : decode cX9_join 7 = .ok (.if_icmp .ne 84, 3) := by decide +kernel
theorem dX9_join_10 : decode cX9_join 10 = .ok (.aload_n 0, 1) := by decide +kernel
theorem dX9_join_11 : decode cX9_join 11 = .ok (.getfield 11, 3) := by decide +kernel
theorem dX9_join_14 : decode cX9_join 14 = .ok (.iload_n 2, 1) := by decide +kernel
theorem dX9_join_15 : decode cX9_join 15 = .ok (.iaload, 1) := by decide +kernel
theorem dX9_join_16 : decode cX9_join 16 = .ok (.iconst 1, 1) := by decide +kernel
theorem dX9_join_17 : decode cX9_join 17 = .ok (.if_icmp .ne 74, 3) := by decide +kernel
theorem dX9_join_20 : decode cX9_join 20 = .ok (.aload_n 0, 1) := by decide +kernel
theorem dX9_join_21 : decode cX9_join 21 = .ok (.getfield 15, 3) := by decide +kernel
theorem dX9_join_24 : decode cX9_join 24 = .ok (.iload_n 1, 1) := by decide +kernel
theorem dX9_join_25 : decode cX9_join 25 = .ok (.iaload, 1) := by decide +kernel
theorem dX9_join_26 : decode cX9_join 26 = .ok (.invokestatic 65, 3) := by decide +kernel
theorem dX9_join_29 : decode cX9_join 29 = .ok (.ifCond .eq 62, 3) := by decide +kernel
theorem dX9_join_32 : decode cX9_join 32 = .ok (.aload_n 0, 1) := by decide +kernel
theorem dX9_join_33 : decode cX9_join 33 = .ok (.getfield 15, 3) := by decide +kernel
theorem dX9_join_36 : decode cX9_join 36 = .ok (.iload_n 2, 1) := by decide +kernel
theorem dX9_join_37 : decode cX9_join 37 = .ok (.iaload, 1) := by decide +kernel
theorem dX9_join_38 : decode cX9_join 38 = .ok (.invokestatic 65, 3) := by decide +kernel
theorem dX9_join_41 : decode cX9_join 41 = .ok (.ifCond .eq 50, 3) := by decide +kernel
theorem dX9_join_44 : decode cX9_join 44 = .ok (.aload_n 0, 1) := by decide +kernel
theorem dX9_join_45 : decode cX9_join 45 = .ok (.getfield 15, 3) := by decide +kernel
theorem dX9_join_48 : decode cX9_join 48 = .ok (.iload_n 1, 1) := by decide +kernel
theorem dX9_join_49 : decode cX9_join 49 = .ok (.iaload, 1) := by decide +kernel
theorem dX9_join_50 : decode cX9_join 50 = .ok (.bipush 97, 2) := by decide +kernel
theorem dX9_join_52 : decode cX9_join 52 = .ok (.isub, 1) := by decide +kernel
theorem dX9_join_53 : decode cX9_join 53 = .ok (.istore_n 3, 1) := by decide +kernel
theorem dX9_join_54 : decode cX9_join 54 = .ok (.aload_n 0, 1) := by decide +kernel
theorem dX9_join_55 : decode cX9_join 55 = .ok (.getfield 15, 3) := by decide +kernel
theorem dX9_join_58 : decode cX9_join 58 = .ok (.iload_n 2, 1) := by decide +kernel
theorem dX9_join_59 : decode cX9_join 59 = .ok (.iaload, 1) := by decide +kernel
theorem dX9_join_60 : decode cX9_join 60 = .ok (.bipush 97, 2) := by decide +kernel
theorem dX9_join_62 : decode cX9_join 62 = .ok (.isub, 1) := by decide +kernel
theorem dX9_join_63 : decode cX9_join 63 = .ok (.istore 4, 2) := by decide +kernel
theorem dX9_join_65 : decode cX9_join 65 = .ok (.aload_n 0, 1) := by decide +kernel
theorem dX9_join_66 : decode cX9_join 66 = .ok (.getfield 40, 3) := by decide +kernel
theorem dX9_join_69 : decode cX9_join 69 = .ok (.iload_n 3, 1) := by decide +kernel
theorem dX9_join_70 : decode cX9_join 70 = .ok (.dup2, 1) := by decide +kernel
theorem dX9_join_71 : decode cX9_join 71 = .ok (.iaload, 1) := by decide +kernel
theorem dX9_join_72 : decode cX9_join 72 = .ok (.iconst 1, 1) := by decide +kernel
theorem dX9_join_73 : decode cX9_join 73 = .ok (.iload 4, 2) := by decide +kernel
theorem dX9_join_75 : decode cX9_join 75 = .ok (.ishl, 1) := by decide +kernel
theorem dX9_join_76 : decode cX9_join 76 = .ok (.ior, 1) := by decide +kernel
theorem dX9_join_77 : decode cX9_join 77 = .ok (.iastore, 1) := by decide +kernel
theorem dX9_join_78 : decode cX9_join 78 = .ok (.aload_n 0, 1) := by decide +kernel
theorem dX9_join_79 : decode cX9_join 79 = .ok (.getfield 40, 3) := by decide +kernel
theorem dX9_join_82 : decode cX9_join 82 = .ok (.iload 4, 2) := by decide +kernel
theorem dX9_join_84 : decode cX9_join 84 = .ok (.dup2, 1) := by decide +kernel
theorem dX9_join_85 : decode cX9_join 85 = .ok (.iaload, 1) := by decide +kernel
theorem dX9_join_86 : decode cX9_join 86 = .ok (.iconst 1, 1) := by decide +kernel
theorem dX9_join_87 : decode cX9_join 87 = .ok (.iload_n 3, 1) := by decide +kernel
theorem dX9_join_88 : decode cX9_join 88 = .ok (.ishl, 1) := by decide +kernel
theorem dX9_join_89 : decode cX9_join 89 = .ok (.ior, 1) := by decide +kernel
theorem dX9_join_90 : decode cX9_join 90 = .ok (.iastore, 1) := by decide +kernel
theorem dX9_join_91 : decode cX9_join 91 = .ok (.return_, 1) := by decide +kernel
theorem dX9_has_0 : decode cX9_has 0 = .ok (.iload_n 1, 1) := by decide +kernel
theorem dX9_has_1 : decode cX9_has 1 = .ok (.ifCond .lt 15, 3) := by decide +kernel
theorem dX9_has_4 : decode cX9_has 4 = .ok (.iload_n 1, 1) := by decide +kernel
theorem dX9_has_5 : decode cX9_has 5 = .ok (.aload_n 0, 1) := by decide +kernel
theorem dX9_has_6 : decode cX9_has 6 = .ok (.getfield 49, 3) := by decide +kernel
theorem dX9_has_9 : decode cX9_has 9 = .ok (.if_icmp .ge 7, 3) := by decide +kernel
theorem dX9_has_12 : decode cX9_has 12 = .ok (.iconst 1, 1) := by decide +kernel
theorem dX9_has_13 : decode cX9_has 13 = .ok (.goto 4, 3) := by decide +kernel
theorem dX9_has_16 : decode cX9_has 16 = .ok (.iconst 0, 1) := by decide +kernel
theorem dX9_has_17 : decode cX9_has 17 = .ok (.ireturn, 1) := by decide +kernel
theorem dX9_size_0 : decode cX9_size 0 = .ok (.aload_n 0, 1) := by decide +kernel
theorem dX9_size_1 : decode cX9_size 1 = .ok (.getfield 49, 3) := by decide +kernel
theorem dX9_size_4 : decode cX9_size 4 = .ok (.ireturn, 1) := by decide +kernel
theorem dX9_kindOf_0 : decode cX9_kindOf 0 = .ok (.aload_n 0, 1) := by decide +kernel
theorem dX9_kindOf_1 : decode cX9_kindOf 1 = .ok (.iload_n 1, 1) := by decide +kernel
theorem dX9_kindOf_2 : decode cX9_kindOf 2 = .ok (.invokevirtual 81, 3) := by decide +kernel
theorem dX9_kindOf_5 : decode cX9_kindOf 5 = .ok (.ifCond .eq 12, 3) := by decide +kernel
theorem dX9_kindOf_8 : decode cX9_kindOf 8 = .ok (.aload_n 0, 1) := by decide +kernel
theorem dX9_kindOf_9 : decode cX9_kindOf 9 = .ok (.getfield 11, 3) := by decide +kernel
theorem dX9_kindOf_12 : decode cX9_kindOf 12 = .ok (.iload_n 1, 1) := by decide +kernel
theorem dX9_kindOf_13 : decode cX9_kindOf 13 = .ok (.iaload, 1) := by decide +kernel
theorem dX9_kindOf_14 : decode cX9_kindOf 14 = .ok (.goto 4, 3) := by decide +kernel
theorem dX9_kindOf_17 : decode cX9_kindOf 17 = .ok (.iconst (-1), 1) := by decide +kernel
theorem dX9_kindOf_18 : decode cX9_kindOf 18 = .ok (.ireturn, 1) := by decide +kernel
theorem dX9_valueOf_0 : decode cX9_valueOf 0 = .ok (.aload_n 0, 1) := by decide +kernel
theorem dX9_valueOf_1 : decode cX9_valueOf 1 = .ok (.iload_n 1, 1) := by decide +kernel
theorem dX9_valueOf_2 : decode cX9_valueOf 2 = .ok (.invokevirtual 81, 3) := by decide +kernel
theorem dX9_valueOf_5 : decode cX9_valueOf 5 = .ok (.ifCond .eq 12, 3) := by decide +kernel
theorem dX9_valueOf_8 : decode cX9_valueOf 8 = .ok (.aload_n 0, 1) := by decide +kernel
theorem dX9_valueOf_9 : decode cX9_valueOf 9 = .ok (.getfield 15, 3) := by decide +kernel
theorem dX9_valueOf_12 : decode cX9_valueOf 12 = .ok (.iload_n 1, 1) := by decide +kernel
theorem dX9_valueOf_13 : decode cX9_valueOf 13 = .ok (.iaload, 1) := by decide +kernel
theorem dX9_valueOf_14 : decode cX9_valueOf 14 = .ok (.goto 4, 3) := by decide +kernel
theorem dX9_valueOf_17 : decode cX9_valueOf 17 = .ok (.iconst (-1), 1) := by decide +kernel
theorem dX9_valueOf_18 : decode cX9_valueOf 18 = .ok (.ireturn, 1) := by decide +kernel
theorem dX9_groupOf_0 : decode cX9_groupOf 0 = .ok (.aload_n 0, 1) := by decide +kernel
theorem dX9_groupOf_1 : decode cX9_groupOf 1 = .ok (.iload_n 1, 1) := by decide +kernel
theorem dX9_groupOf_2 : decode cX9_groupOf 2 = .ok (.invokevirtual 81, 3) := by decide +kernel
theorem dX9_groupOf_5 : decode cX9_groupOf 5 = .ok (.ifCond .eq 12, 3) := by decide +kernel
theorem dX9_groupOf_8 : decode cX9_groupOf 8 = .ok (.aload_n 0, 1) := by decide +kernel
theorem dX9_groupOf_9 : decode cX9_groupOf 9 = .ok (.getfield 18, 3) := by decide +kernel
theorem dX9_groupOf_12 : decode cX9_groupOf 12 = .ok (.iload_n 1, 1) := by decide +kernel
theorem dX9_groupOf_13 : decode cX9_groupOf 13 = .ok (.iaload, 1) := by decide +kernel
theorem dX9_groupOf_14 : decode cX9_groupOf 14 = .ok (.goto 4, 3) := by decide +kernel
theorem dX9_groupOf_17 : decode cX9_groupOf 17 = .ok (.iconst (-1), 1) := by decide +kernel
theorem dX9_groupOf_18 : decode cX9_groupOf 18 = .ok (.ireturn, 1) := by decide +kernel
theorem dX9_placeOf_0 : decode cX9_placeOf 0 = .ok (.aload_n 0, 1) := by decide +kernel
theorem dX9_placeOf_1 : decode cX9_placeOf 1 = .ok (.iload_n 1, 1) := by decide +kernel
theorem dX9_placeOf_2 : decode cX9_placeOf 2 = .ok (.invokevirtual 81, 3) := by decide +kernel
theorem dX9_placeOf_5 : decode cX9_placeOf 5 = .ok (.ifCond .eq 12, 3) := by decide +kernel
theorem dX9_placeOf_8 : decode cX9_placeOf 8 = .ok (.aload_n 0, 1) := by decide +kernel
theorem dX9_placeOf_9 : decode cX9_placeOf 9 = .ok (.getfield 21, 3) := by decide +kernel
theorem dX9_placeOf_12 : decode cX9_placeOf 12 = .ok (.iload_n 1, 1) := by decide +kernel
theorem dX9_placeOf_13 : decode cX9_placeOf 13 = .ok (.iaload, 1) := by decide +kernel
theorem dX9_placeOf_14 : decode cX9_placeOf 14 = .ok (.goto 4, 3) := by decide +kernel
theorem dX9_placeOf_17 : decode cX9_placeOf 17 = .ok (.iconst (-1), 1) := by decide +kernel
theorem dX9_placeOf_18 : decode cX9_placeOf 18 = .ok (.ireturn, 1) := by decide +kernel
theorem dX9_lightsOf_0 : decode cX9_lightsOf 0 = .ok (.aload_n 0, 1) := by decide +kernel
theorem dX9_lightsOf_1 : decode cX9_lightsOf 1 = .ok (.iload_n 1, 1) := by decide +kernel
theorem dX9_lightsOf_2 : decode cX9_lightsOf 2 = .ok (.invokevirtual 81, 3) := by decide +kernel
theorem dX9_lightsOf_5 : decode cX9_lightsOf 5 = .ok (.ifCond .eq 12, 3) := by decide +kernel
theorem dX9_lightsOf_8 : decode cX9_lightsOf 8 = .ok (.aload_n 0, 1) := by decide +kernel
theorem dX9_lightsOf_9 : decode cX9_lightsOf 9 = .ok (.getfield 24, 3) := by decide +kernel
theorem dX9_lightsOf_12 : decode cX9_lightsOf 12 = .ok (.iload_n 1, 1) := by decide +kernel
theorem dX9_lightsOf_13 : decode cX9_lightsOf 13 = .ok (.iaload, 1) := by decide +kernel
theorem dX9_lightsOf_14 : decode cX9_lightsOf 14 = .ok (.goto 4, 3) := by decide +kernel
theorem dX9_lightsOf_17 : decode cX9_lightsOf 17 = .ok (.iconst 0, 1) := by decide +kernel
theorem dX9_lightsOf_18 : decode cX9_lightsOf 18 = .ok (.ireturn, 1) := by decide +kernel
theorem dX9_firstIn_0 : decode cX9_firstIn 0 = .ok (.aload_n 0, 1) := by decide +kernel
theorem dX9_firstIn_1 : decode cX9_firstIn 1 = .ok (.iload_n 1, 1) := by decide +kernel
theorem dX9_firstIn_2 : decode cX9_firstIn 2 = .ok (.invokevirtual 81, 3) := by decide +kernel
theorem dX9_firstIn_5 : decode cX9_firstIn 5 = .ok (.ifCond .eq 12, 3) := by decide +kernel
theorem dX9_firstIn_8 : decode cX9_firstIn 8 = .ok (.aload_n 0, 1) := by decide +kernel
theorem dX9_firstIn_9 : decode cX9_firstIn 9 = .ok (.getfield 27, 3) := by decide +kernel
theorem dX9_firstIn_12 : decode cX9_firstIn 12 = .ok (.iload_n 1, 1) := by decide +kernel
theorem dX9_firstIn_13 : decode cX9_firstIn 13 = .ok (.iaload, 1) := by decide +kernel
theorem dX9_firstIn_14 : decode cX9_firstIn 14 = .ok (.goto 4, 3) := by decide +kernel
theorem dX9_firstIn_17 : decode cX9_firstIn 17 = .ok (.iconst (-1), 1) := by decide +kernel
theorem dX9_firstIn_18 : decode cX9_firstIn 18 = .ok (.ireturn, 1) := by decide +kernel
theorem dX9_behind_0 : decode cX9_behind 0 = .ok (.aload_n 0, 1) := by decide +kernel
theorem dX9_behind_1 : decode cX9_behind 1 = .ok (.iload_n 1, 1) := by decide +kernel
theorem dX9_behind_2 : decode cX9_behind 2 = .ok (.invokevirtual 81, 3) := by decide +kernel
theorem dX9_behind_5 : decode cX9_behind 5 = .ok (.ifCond .eq 12, 3) := by decide +kernel
theorem dX9_behind_8 : decode cX9_behind 8 = .ok (.aload_n 0, 1) := by decide +kernel
theorem dX9_behind_9 : decode cX9_behind 9 = .ok (.getfield 33, 3) := by decide +kernel
theorem dX9_behind_12 : decode cX9_behind 12 = .ok (.iload_n 1, 1) := by decide +kernel
theorem dX9_behind_13 : decode cX9_behind 13 = .ok (.iaload, 1) := by decide +kernel
theorem dX9_behind_14 : decode cX9_behind 14 = .ok (.goto 4, 3) := by decide +kernel
theorem dX9_behind_17 : decode cX9_behind 17 = .ok (.iconst (-1), 1) := by decide +kernel
theorem dX9_behind_18 : decode cX9_behind 18 = .ok (.ireturn, 1) := by decide +kernel
theorem dX9_areNeighbours_0 : decode cX9_areNeighbours 0 = .ok (.iload_n 1, 1) := by decide +kernel
theorem dX9_areNeighbours_1 : decode cX9_areNeighbours 1 = .ok (.invokestatic 65, 3) := by decide +kernel
theorem dX9_areNeighbours_4 : decode cX9_areNeighbours 4 = .ok (.ifCond .eq 34, 3) := by decide +kernel
theorem dX9_areNeighbours_7 : decode cX9_areNeighbours 7 = .ok (.iload_n 2, 1) := by decide +kernel
theorem dX9_areNeighbours_8 : decode cX9_areNeighbours 8 = .ok (.invokestatic 65, 3) := by decide +kernel
theorem dX9_areNeighbours_11 : decode cX9_areNeighbours 11 = .ok (.ifCond .eq 27, 3) := by decide +kernel
theorem dX9_areNeighbours_14 : decode cX9_areNeighbours 14 = .ok (.aload_n 0, 1) := by decide +kernel
theorem dX9_areNeighbours_15 : decode cX9_areNeighbours 15 = .ok (.getfield 40, 3) := by decide +kernel
theorem dX9_areNeighbours_18 : decode cX9_areNeighbours 18 = .ok (.iload_n 1, 1) := by decide +kernel
theorem dX9_areNeighbours_19 : decode cX9_areNeighbours 19 = .ok (.bipush 97, 2) := by decide +kernel
theorem dX9_areNeighbours_21 : decode cX9_areNeighbours 21 = .ok (.isub, 1) := by decide +kernel
theorem dX9_areNeighbours_22 : decode cX9_areNeighbours 22 = .ok (.iaload, 1) := by decide +kernel
theorem dX9_areNeighbours_23 : decode cX9_areNeighbours 23 = .ok (.iload_n 2, 1) := by decide +kernel
theorem dX9_areNeighbours_24 : decode cX9_areNeighbours 24 = .ok (.bipush 97, 2) := by decide +kernel
theorem dX9_areNeighbours_26 : decode cX9_areNeighbours 26 = .ok (.isub, 1) := by decide +kernel
theorem dX9_areNeighbours_27 : decode cX9_areNeighbours 27 = .ok (.ishr, 1) := by decide +kernel
theorem dX9_areNeighbours_28 : decode cX9_areNeighbours 28 = .ok (.iconst 1, 1) := by decide +kernel
theorem dX9_areNeighbours_29 : decode cX9_areNeighbours 29 = .ok (.iand, 1) := by decide +kernel
theorem dX9_areNeighbours_30 : decode cX9_areNeighbours 30 = .ok (.iconst 1, 1) := by decide +kernel
theorem dX9_areNeighbours_31 : decode cX9_areNeighbours 31 = .ok (.if_icmp .ne 7, 3) := by decide +kernel
theorem dX9_areNeighbours_34 : decode cX9_areNeighbours 34 = .ok (.iconst 1, 1) := by decide +kernel
theorem dX9_areNeighbours_35 : decode cX9_areNeighbours 35 = .ok (.goto 4, 3) := by decide +kernel
theorem dX9_areNeighbours_38 : decode cX9_areNeighbours 38 = .ok (.iconst 0, 1) := by decide +kernel
theorem dX9_areNeighbours_39 : decode cX9_areNeighbours 39 = .ok (.ireturn, 1) := by decide +kernel
theorem dX10_init_0 : decode cX10_init 0 = .ok (.aload_n 0, 1) := by decide +kernel
theorem dX10_init_1 : decode cX10_init 1 = .ok (.invokespecial 1, 3) := by decide +kernel
theorem dX10_init_4 : decode cX10_init 4 = .ok (.aload_n 0, 1) := by decide +kernel
theorem dX10_init_5 : decode cX10_init 5 = .ok (.new 7, 3) := by decide +kernel
theorem dX10_init_8 : decode cX10_init 8 = .ok (.dup, 1) := by decide +kernel
theorem dX10_init_9 : decode cX10_init 9 = .ok (.invokespecial 9, 3) := by decide +kernel
theorem dX10_init_12 : decode cX10_init 12 = .ok (.putfield 10, 3) := by decide +kernel
theorem dX10_init_15 : decode cX10_init 15 = .ok (.aload_n 0, 1) := by decide +kernel
theorem dX10_init_16 : decode cX10_init 16 = .ok (.new 16, 3) := by decide +kernel
theorem dX10_init_19 : decode cX10_init 19 = .ok (.dup, 1) := by decide +kernel
theorem dX10_init_20 : decode cX10_init 20 = .ok (.invokespecial 18, 3) := by decide +kernel
theorem dX10_init_23 : decode cX10_init 23 = .ok (.putfield 19, 3) := by decide +kernel
theorem dX10_init_26 : decode cX10_init 26 = .ok (.aload_n 0, 1) := by decide +kernel
theorem dX10_init_27 : decode cX10_init 27 = .ok (.new 23, 3) := by decide +kernel
theorem dX10_init_30 : decode cX10_init 30 = .ok (.dup, 1) := by decide +kernel
theorem dX10_init_31 : decode cX10_init 31 = .ok (.aload_n 0, 1) := by decide +kernel
theorem dX10_init_32 : decode cX10_init 32 = .ok (.getfield 19, 3) := by decide +kernel
theorem dX10_init_35 : decode cX10_init 35 = .ok (.aload_n 0, 1) := by decide +kernel
theorem dX10_init_36 : decode cX10_init 36 = .ok (.getfield 10, 3) := by decide +kernel
theorem dX10_init_39 : decode cX10_init 39 = .ok (.invokespecial 25, 3) := by decide +kernel
theorem dX10_init_42 : decode cX10_init 42 = .ok (.putfield 28, 3) := by decide +kernel
theorem dX10_init_45 : decode cX10_init 45 = .ok (.aload_n 0, 1) := by decide +kernel
theorem dX10_init_46 : decode cX10_init 46 = .ok (.new 32, 3) := by decide +kernel
theorem dX10_init_49 : decode cX10_init 49 = .ok (.dup, 1) := by decide +kernel
theorem dX10_init_50 : decode cX10_init 50 = .ok (.invokespecial 34, 3) := by decide +kernel
theorem dX10_init_53 : decode cX10_init 53 = .ok (.putfield 35, 3) := by decide +kernel
theorem dX10_init_56 : decode cX10_init 56 = .ok (.aload_n 0, 1) := by decide +kernel
theorem dX10_init_57 : decode cX10_init 57 = .ok (.new 39, 3) := by decide +kernel
theorem dX10_init_60 : decode cX10_init 60 = .ok (.dup, 1) := by decide +kernel
theorem dX10_init_61 : decode cX10_init 61 = .ok (.invokespecial 41, 3) := by decide +kernel
theorem dX10_init_64 : decode cX10_init 64 = .ok (.putfield 42, 3) := by decide +kernel
theorem dX10_init_67 : decode cX10_init 67 = .ok (.aload_n 0, 1) := by decide +kernel
theorem dX10_init_68 : decode cX10_init 68 = .ok (.new 46, 3) := by decide +kernel
theorem dX10_init_71 : decode cX10_init 71 = .ok (.dup, 1) := by decide +kernel
theorem dX10_init_72 : decode cX10_init 72 = .ok (.invokespecial 48, 3) := by decide +kernel
theorem dX10_init_75 : decode cX10_init 75 = .ok (.putfield 49, 3) := by decide +kernel
theorem dX10_init_78 : decode cX10_init 78 = .ok (.aload_n 0, 1) := by decide +kernel
theorem dX10_init_79 : decode cX10_init 79 = .ok (.new 53, 3) := by decide +kernel
theorem dX10_init_82 : decode cX10_init 82 = .ok (.dup, 1) := by decide +kernel
theorem dX10_init_83 : decode cX10_init 83 = .ok (.aload_n 0, 1) := by decide +kernel
theorem dX10_init_84 : decode cX10_init 84 = .ok (.getfield 49, 3) := by decide +kernel
theorem dX10_init_87 : decode cX10_init 87 = .ok (.aload_n 0, 1) := by decide +kernel
theorem dX10_init_88 : decode cX10_init 88 = .ok (.getfield 19, 3) := by decide +kernel
theorem dX10_init_91 : decode cX10_init 91 = .ok (.aload_n 0, 1) := by decide +kernel
theorem dX10_init_92 : decode cX10_init 92 = .ok (.getfield 35, 3) := by decide +kernel
theorem dX10_init_95 : decode cX10_init 95 = .ok (.invokespecial 55, 3) := by decide +kernel
theorem dX10_init_98 : decode cX10_init 98 = .ok (.putfield 58, 3) := by decide +kernel
theorem dX10_init_101 : decode cX10_init 101 = .ok (.aload_n 0, 1) := by decide +kernel
theorem dX10_init_102 : decode cX10_init 102 = .ok (.new 62, 3) := by decide +kernel
theorem dX10_init_105 : decode cX10_init 105 = .ok (.dup, 1) := by decide +kernel
theorem dX10_init_106 : decode cX10_init 106 = .ok (.aload_n 0, 1) := by decide +kernel
theorem dX10_init_107 : decode cX10_init 107 = .ok (.getfield 19, 3) := by decide +kernel
theorem dX10_init_110 : decode cX10_init 110 = .ok (.aload_n 0, 1) := by decide +kernel
theorem dX10_init_111 : decode cX10_init 111 = .ok (.getfield 10, 3) := by decide +kernel
theorem dX10_init_114 : decode cX10_init 114 = .ok (.invokespecial 64, 3) := by decide +kernel
theorem dX10_init_117 : decode cX10_init 117 = .ok (.putfield 65, 3) := by decide +kernel
theorem dX10_init_120 : decode cX10_init 120 = .ok (.aload_n 0, 1) := by decide +kernel
theorem dX10_init_121 : decode cX10_init 121 = .ok (.new 69, 3) := by decide +kernel
theorem dX10_init_124 : decode cX10_init 124 = .ok (.dup, 1) := by decide +kernel
theorem dX10_init_125 : decode cX10_init 125 = .ok (.aload_n 0, 1) := by decide +kernel
theorem dX10_init_126 : decode cX10_init 126 = .ok (.getfield 42, 3) := by decide +kernel
theorem dX10_init_129 : decode cX10_init 129 = .ok (.aload_n 0, 1) := by decide +kernel
theorem dX10_init_130 : decode cX10_init 130 = .ok (.getfield 10, 3) := by decide +kernel
theorem dX10_init_133 : decode cX10_init 133 = .ok (.invokespecial 71, 3) := by decide +kernel
theorem dX10_init_136 : decode cX10_init 136 = .ok (.putfield 74, 3) := by decide +kernel
theorem dX10_init_139 : decode cX10_init 139 = .ok (.return_, 1) := by decide +kernel
theorem dX10_node_0 : decode cX10_node 0 = .ok (.aload_n 0, 1) := by decide +kernel
theorem dX10_node_1 : decode cX10_node 1 = .ok (.getfield 19, 3) := by decide +kernel
theorem dX10_node_4 : decode cX10_node 4 = .ok (.iload_n 1, 1) := by decide +kernel
theorem dX10_node_5 : decode cX10_node 5 = .ok (.iload_n 2, 1) := by decide +kernel
theorem dX10_node_6 : decode cX10_node 6 = .ok (.iload_n 3, 1) := by decide +kernel
theorem dX10_node_7 : decode cX10_node 7 = .ok (.invokevirtual 78, 3) := by decide +kernel
theorem dX10_node_10 : decode cX10_node 10 = .ok (.istore 4, 2) := by decide +kernel
theorem dX10_node_12 : decode cX10_node 12 = .ok (.iload 4, 2) := by decide +kernel
theorem dX10_node_14 : decode cX10_node 14 = .ok (.iconst (-1), 1) := by decide +kernel
theorem dX10_node_15 : decode cX10_node 15 = .ok (.if_icmp .eq 7, 3) := by decide +kernel
theorem dX10_node_18 : decode cX10_node 18 = .ok (.aload_n 0, 1) := by decide +kernel
theorem dX10_node_19 : decode cX10_node 19 = .ok (.invokevirtual 82, 3) := by decide +kernel
theorem dX10_node_22 : decode cX10_node 22 = .ok (.iload 4, 2) := by decide +kernel
theorem dX10_node_24 : decode cX10_node 24 = .ok (.ireturn, 1) := by decide +kernel
theorem dX10_clear_0 : decode cX10_clear 0 = .ok (.aload_n 0, 1) := by decide +kernel
theorem dX10_clear_1 : decode cX10_clear 1 = .ok (.getfield 19, 3) := by decide +kernel
theorem dX10_clear_4 : decode cX10_clear 4 = .ok (.invokevirtual 85, 3) := by decide +kernel
theorem dX10_clear_7 : decode cX10_clear 7 = .ok (.aload_n 0, 1) := by decide +kernel
theorem dX10_clear_8 : decode cX10_clear 8 = .ok (.invokevirtual 82, 3) := by decide +kernel
theorem dX10_clear_11 : decode cX10_clear 11 = .ok (.return_, 1) := by decide +kernel
theorem dX10_told_0 : decode cX10_told 0 = .ok (.aload_n 0, 1) := by decide +kernel
theorem dX10_told_1 : decode cX10_told 1 = .ok (.getfield 19, 3) := by decide +kernel
theorem dX10_told_4 : decode cX10_told 4 = .ok (.iload_n 1, 1) := by decide +kernel
theorem dX10_told_5 : decode cX10_told 5 = .ok (.invokevirtual 88, 3) := by decide +kernel
theorem dX10_told_8 : decode cX10_told 8 = .ok (.ifCond .ne 5, 3) := by decide +kernel
theorem dX10_told_11 : decode cX10_told 11 = .ok (.iconst (-1), 1) := by decide +kernel
theorem dX10_told_12 : decode cX10_told 12 = .ok (.ireturn, 1) := by decide +kernel
theorem dX10_told_13 : decode cX10_told 13 = .ok (.iload_n 2, 1) := by decide +kernel
theorem dX10_told_14 : decode cX10_told 14 = .ok (.tableswitch 79 0 4 #[34, 43, 52, 61, 70], 34) := by decide +kernel
theorem dX10_told_48 : decode cX10_told 48 = .ok (.aload_n 0, 1) := by decide +kernel
theorem dX10_told_49 : decode cX10_told 49 = .ok (.getfield 19, 3) := by decide +kernel
theorem dX10_told_52 : decode cX10_told 52 = .ok (.iload_n 1, 1) := by decide +kernel
theorem dX10_told_53 : decode cX10_told 53 = .ok (.invokevirtual 92, 3) := by decide +kernel
theorem dX10_told_56 : decode cX10_told 56 = .ok (.ireturn, 1) := by decide +kernel
theorem dX10_told_57 : decode cX10_told 57 = .ok (.aload_n 0, 1) := by decide +kernel
theorem dX10_told_58 : decode cX10_told 58 = .ok (.getfield 19, 3) := by decide +kernel
theorem dX10_told_61 : decode cX10_told 61 = .ok (.iload_n 1, 1) := by decide +kernel
theorem dX10_told_62 : decode cX10_told 62 = .ok (.invokevirtual 96, 3) := by decide +kernel
theorem dX10_told_65 : decode cX10_told 65 = .ok (.ireturn, 1) := by decide +kernel
theorem dX10_told_66 : decode cX10_told 66 = .ok (.aload_n 0, 1) := by decide +kernel
theorem dX10_told_67 : decode cX10_told 67 = .ok (.getfield 19, 3) := by decide +kernel
theorem dX10_told_70 : decode cX10_told 70 = .ok (.iload_n 1, 1) := by decide +kernel
theorem dX10_told_71 : decode cX10_told 71 = .ok (.invokevirtual 99, 3) := by decide +kernel
theorem dX10_told_74 : decode cX10_told 74 = .ok (.ireturn, 1) := by decide +kernel
theorem dX10_told_75 : decode cX10_told 75 = .ok (.aload_n 0, 1) := by decide +kernel
theorem dX10_told_76 : decode cX10_told 76 = .ok (.getfield 19, 3) := by decide +kernel
theorem dX10_told_79 : decode cX10_told 79 = .ok (.iload_n 1, 1) := by decide +kernel
theorem dX10_told_80 : decode cX10_told 80 = .ok (.invokevirtual 102, 3) := by decide +kernel
theorem dX10_told_83 : decode cX10_told 83 = .ok (.ireturn, 1) := by decide +kernel
theorem dX10_told_84 : decode cX10_told 84 = .ok (.aload_n 0, 1) := by decide +kernel
theorem dX10_told_85 : decode cX10_told 85 = .ok (.getfield 19, 3) := by decide +kernel
theorem dX10_told_88 : decode cX10_told 88 = .ok (.iload_n 1, 1) := by decide +kernel
theorem dX10_told_89 : decode cX10_told 89 = .ok (.invokevirtual 105, 3) := by decide +kernel
theorem dX10_told_92 : decode cX10_told 92 = .ok (.ireturn, 1) := by decide +kernel
theorem dX10_told_93 : decode cX10_told 93 = .ok (.iconst (-1), 1) := by decide +kernel
theorem dX10_told_94 : decode cX10_told 94 = .ok (.ireturn, 1) := by decide +kernel
theorem dX10_set_0 : decode cX10_set 0 = .ok (.aload_n 0, 1) := by decide +kernel
theorem dX10_set_1 : decode cX10_set 1 = .ok (.getfield 10, 3) := by decide +kernel
theorem dX10_set_4 : decode cX10_set 4 = .ok (.iload_n 1, 1) := by decide +kernel
theorem dX10_set_5 : decode cX10_set 5 = .ok (.iload_n 2, 1) := by decide +kernel
theorem dX10_set_6 : decode cX10_set 6 = .ok (.invokevirtual 108, 3) := by decide +kernel
theorem dX10_set_9 : decode cX10_set 9 = .ok (.ireturn, 1) := by decide +kernel
theorem dX10_tick_0 : decode cX10_tick 0 = .ok (.aload_n 0, 1) := by decide +kernel
theorem dX10_tick_1 : decode cX10_tick 1 = .ok (.getfield 28, 3) := by decide +kernel
theorem dX10_tick_4 : decode cX10_tick 4 = .ok (.iload_n 1, 1) := by decide +kernel
theorem dX10_tick_5 : decode cX10_tick 5 = .ok (.invokevirtual 112, 3) := by decide +kernel
theorem dX10_tick_8 : decode cX10_tick 8 = .ok (.ireturn, 1) := by decide +kernel
theorem dX10_press_0 : decode cX10_press 0 = .ok (.aload_n 0, 1) := by decide +kernel
theorem dX10_press_1 : decode cX10_press 1 = .ok (.getfield 28, 3) := by decide +kernel
theorem dX10_press_4 : decode cX10_press 4 = .ok (.invokevirtual 115, 3) := by decide +kernel
theorem dX10_press_7 : decode cX10_press 7 = .ok (.istore_n 1, 1) := by decide +kernel
theorem dX10_press_8 : decode cX10_press 8 = .ok (.iload_n 1, 1) := by decide +kernel
theorem dX10_press_9 : decode cX10_press 9 = .ok (.iconst (-1), 1) := by decide +kernel
theorem dX10_press_10 : decode cX10_press 10 = .ok (.if_icmp .ne 5, 3) := by decide +kernel
theorem dX10_press_13 : decode cX10_press 13 = .ok (.iconst (-1), 1) := by decide +kernel
theorem dX10_press_14 : decode cX10_press 14 = .ok (.ireturn, 1) := by decide +kernel
theorem dX10_press_15 : decode cX10_press 15 = .ok (.aload_n 0, 1) := by decide +kernel
theorem dX10_press_16 : decode cX10_press 16 = .ok (.getfield 19, 3) := by decide +kernel
theorem dX10_press_19 : decode cX10_press 19 = .ok (.iload_n 1, 1) := by decide +kernel
theorem dX10_press_20 : decode cX10_press 20 = .ok (.invokevirtual 92, 3) := by decide +kernel
theorem dX10_press_23 : decode cX10_press 23 = .ok (.ifCond .ne 14, 3) := by decide +kernel
theorem dX10_press_26 : decode cX10_press 26 = .ok (.aload_n 0, 1) := by decide +kernel
theorem dX10_press_27 : decode cX10_press 27 = .ok (.getfield 28, 3) := by decide +kernel
theorem dX10_press_30 : decode cX10_press 30 = .ok (.iload_n 1, 1) := by decide +kernel
theorem dX10_press_31 : decode cX10_press 31 = .ok (.invokevirtual 119, 3) := by decide +kernel
theorem dX10_press_34 : decode cX10_press 34 = .ok (.goto 16, 3) := by decide +kernel
theorem dX10_press_37 : decode cX10_press 37 = .ok (.aload_n 0, 1) := by decide +kernel
theorem dX10_press_38 : decode cX10_press 38 = .ok (.iload_n 1, 1) := by decide +kernel
theorem dX10_press_39 : decode cX10_press 39 = .ok (.invokevirtual 123, 3) := by decide +kernel
theorem dX10_press_42 : decode cX10_press 42 = .ok (.aload_n 0, 1) := by decide +kernel
theorem dX10_press_43 : decode cX10_press 43 = .ok (.getfield 28, 3) := by decide +kernel
theorem dX10_press_46 : decode cX10_press 46 = .ok (.iconst 0, 1) := by decide +kernel
theorem dX10_press_47 : decode cX10_press 47 = .ok (.invokevirtual 119, 3) := by decide +kernel
theorem dX10_press_50 : decode cX10_press 50 = .ok (.iload_n 1, 1) := by decide +kernel
theorem dX10_press_51 : decode cX10_press 51 = .ok (.ireturn, 1) := by decide +kernel
theorem dX10_state_0 : decode cX10_state 0 = .ok (.iload_n 1, 1) := by decide +kernel
theorem dX10_state_1 : decode cX10_state 1 = .ok (.bipush 7, 2) := by decide +kernel
theorem dX10_state_3 : decode cX10_state 3 = .ok (.if_icmp .ne 13, 3) := by decide +kernel
theorem dX10_state_6 : decode cX10_state 6 = .ok (.aload_n 0, 1) := by decide +kernel
theorem dX10_state_7 : decode cX10_state 7 = .ok (.getfield 35, 3) := by decide +kernel
theorem dX10_state_10 : decode cX10_state 10 = .ok (.invokevirtual 126, 3) := by decide +kernel
theorem dX10_state_13 : decode cX10_state 13 = .ok (.goto 11, 3) := by decide +kernel
theorem dX10_state_16 : decode cX10_state 16 = .ok (.aload_n 0, 1) := by decide +kernel
theorem dX10_state_17 : decode cX10_state 17 = .ok (.getfield 28, 3) := by decide +kernel
theorem dX10_state_20 : decode cX10_state 20 = .ok (.iload_n 1, 1) := by decide +kernel
theorem dX10_state_21 : decode cX10_state 21 = .ok (.invokevirtual 129, 3) := by decide +kernel
theorem dX10_state_24 : decode cX10_state 24 = .ok (.ireturn, 1) := by decide +kernel
theorem dX10_length_0 : decode cX10_length 0 = .ok (.aload_n 0, 1) := by decide +kernel
theorem dX10_length_1 : decode cX10_length 1 = .ok (.getfield 35, 3) := by decide +kernel
theorem dX10_length_4 : decode cX10_length 4 = .ok (.iload_n 1, 1) := by decide +kernel
theorem dX10_length_5 : decode cX10_length 5 = .ok (.invokevirtual 132, 3) := by decide +kernel
theorem dX10_length_8 : decode cX10_length 8 = .ok (.astore_n 2, 1) := by decide +kernel
theorem dX10_length_9 : decode cX10_length 9 = .ok (.aload_n 2, 1) := by decide +kernel
theorem dX10_length_10 : decode cX10_length 10 = .ok (.ifnonnull 7, 3) := by decide +kernel
theorem dX10_length_13 : decode cX10_length 13 = .ok (.iconst (-1), 1) := by decide +kernel
theorem dX10_length_14 : decode cX10_length 14 = .ok (.goto 7, 3) := by decide +kernel
theorem dX10_length_17 : decode cX10_length 17 = .ok (.aload_n 2, 1) := by decide +kernel
theorem dX10_length_18 : decode cX10_length 18 = .ok (.getfield 136, 3) := by decide +kernel
theorem dX10_length_21 : decode cX10_length 21 = .ok (.ireturn, 1) := by decide +kernel
theorem dX10_at_0 : decode cX10_at 0 = .ok (.aload_n 0, 1) := by decide +kernel
theorem dX10_at_1 : decode cX10_at 1 = .ok (.getfield 35, 3) := by decide +kernel
theorem dX10_at_4 : decode cX10_at 4 = .ok (.iload_n 1, 1) := by decide +kernel
theorem dX10_at_5 : decode cX10_at 5 = .ok (.invokevirtual 132, 3) := by decide +kernel
theorem dX10_at_8 : decode cX10_at 8 = .ok (.astore_n 3, 1) := by decide +kernel
theorem dX10_at_9 : decode cX10_at 9 = .ok (.aload_n 3, 1) := by decide +kernel
theorem dX10_at_10 : decode cX10_at 10 = .ok (.ifnull 15, 3) := by decide +kernel
theorem dX10_at_13 : decode cX10_at 13 = .ok (.iload_n 2, 1) := by decide +kernel
theorem dX10_at_14 : decode cX10_at 14 = .ok (.ifCond .lt 11, 3) := by decide +kernel
theorem dX10_at_17 : decode cX10_at 17 = .ok (.iload_n 2, 1) := by decide +kernel
theorem dX10_at_18 : decode cX10_at 18 = .ok (.aload_n 3, 1) := by decide +kernel
theorem dX10_at_19 : decode cX10_at 19 = .ok (.getfield 136, 3) := by decide +kernel
theorem dX10_at_22 : decode cX10_at 22 = .ok (.if_icmp .lt 11, 3) := by decide +kernel
theorem dX10_at_25 : decode cX10_at 25 = .ok (.new 142, 3) := by decide +kernel
theorem dX10_at_28 : decode cX10_at 28 = .ok (.dup, 1) := by decide +kernel
theorem dX10_at_29 : decode cX10_at 29 = .ok (.invokespecial 144, 3) := by decide +kernel
theorem dX10_at_32 : decode cX10_at 32 = .ok (.athrow, 1) := by decide +kernel
theorem dX10_at_33 : decode cX10_at 33 = .ok (.aload_n 3, 1) := by decide +kernel
theorem dX10_at_34 : decode cX10_at 34 = .ok (.iload_n 2, 1) := by decide +kernel
theorem dX10_at_35 : decode cX10_at 35 = .ok (.invokevirtual 145, 3) := by decide +kernel
theorem dX10_at_38 : decode cX10_at 38 = .ok (.ireturn, 1) := by decide +kernel
theorem dX10_feed_0 : decode cX10_feed 0 = .ok (.aload_n 0, 1) := by decide +kernel
theorem dX10_feed_1 : decode cX10_feed 1 = .ok (.getfield 42, 3) := by decide +kernel
theorem dX10_feed_4 : decode cX10_feed 4 = .ok (.iload_n 1, 1) := by decide +kernel
theorem dX10_feed_5 : decode cX10_feed 5 = .ok (.iload_n 2, 1) := by decide +kernel
theorem dX10_feed_6 : decode cX10_feed 6 = .ok (.invokevirtual 148, 3) := by decide +kernel
theorem dX10_feed_9 : decode cX10_feed 9 = .ok (.ireturn, 1) := by decide +kernel
theorem dX10_end_0 : decode cX10_end 0 = .ok (.aload_n 0, 1) := by decide +kernel
theorem dX10_end_1 : decode cX10_end 1 = .ok (.getfield 42, 3) := by decide +kernel
theorem dX10_end_4 : decode cX10_end 4 = .ok (.iload_n 1, 1) := by decide +kernel
theorem dX10_end_5 : decode cX10_end 5 = .ok (.invokevirtual 151, 3) := by decide +kernel
theorem dX10_end_8 : decode cX10_end 8 = .ok (.ireturn, 1) := by decide +kernel
theorem dX10_word_0 : decode cX10_word 0 = .ok (.aload_n 0, 1) := by decide +kernel
theorem dX10_word_1 : decode cX10_word 1 = .ok (.getfield 49, 3) := by decide +kernel
theorem dX10_word_4 : decode cX10_word 4 = .ok (.aload_n 0, 1) := by decide +kernel
theorem dX10_word_5 : decode cX10_word 5 = .ok (.getfield 42, 3) := by decide +kernel
theorem dX10_word_8 : decode cX10_word 8 = .ok (.iload_n 1, 1) := by decide +kernel
theorem dX10_word_9 : decode cX10_word 9 = .ok (.invokevirtual 154, 3) := by decide +kernel
theorem dX10_word_12 : decode cX10_word 12 = .ok (.istore_n 2, 1) := by decide +kernel
theorem dX10_word_13 : decode cX10_word 13 = .ok (.iload_n 2, 1) := by decide +kernel
theorem dX10_word_14 : decode cX10_word 14 = .ok (.iconst (-1), 1) := by decide +kernel
theorem dX10_word_15 : decode cX10_word 15 = .ok (.if_icmp .eq 12, 3) := by decide +kernel
theorem dX10_word_18 : decode cX10_word 18 = .ok (.aload_n 0, 1) := by decide +kernel
theorem dX10_word_19 : decode cX10_word 19 = .ok (.getfield 42, 3) := by decide +kernel
theorem dX10_word_22 : decode cX10_word 22 = .ok (.iconst 0, 1) := by decide +kernel
theorem dX10_word_23 : decode cX10_word 23 = .ok (.invokevirtual 151, 3) := by decide +kernel
theorem dX10_word_26 : decode cX10_word 26 = .ok (.pop, 1) := by decide +kernel
theorem dX10_word_27 : decode cX10_word 27 = .ok (.iload_n 2, 1) := by decide +kernel
theorem dX10_word_28 : decode cX10_word 28 = .ok (.ireturn, 1) := by decide +kernel
theorem dX10_letter_0 : decode cX10_letter 0 = .ok (.iload_n 2, 1) := by decide +kernel
theorem dX10_letter_1 : decode cX10_letter 1 = .ok (.ifCond .lt 15, 3) := by decide +kernel
theorem dX10_letter_4 : decode cX10_letter 4 = .ok (.iload_n 2, 1) := by decide +kernel
theorem dX10_letter_5 : decode cX10_letter 5 = .ok (.aload_n 0, 1) := by decide +kernel
theorem dX10_letter_6 : decode cX10_letter 6 = .ok (.getfield 49, 3) := by decide +kernel
theorem dX10_letter_9 : decode cX10_letter 9 = .ok (.iload_n 1, 1) := by decide +kernel
theorem dX10_letter_10 : decode cX10_letter 10 = .ok (.invokevirtual 157, 3) := by decide +kernel
theorem dX10_letter_13 : decode cX10_letter 13 = .ok (.if_icmp .lt 11, 3) := by decide +kernel
theorem dX10_letter_16 : decode cX10_letter 16 = .ok (.new 142, 3) := by decide +kernel
theorem dX10_letter_19 : decode cX10_letter 19 = .ok (.dup, 1) := by decide +kernel
theorem dX10_letter_20 : decode cX10_letter 20 = .ok (.invokespecial 144, 3) := by decide +kernel
theorem dX10_letter_23 : decode cX10_letter 23 = .ok (.athrow, 1) := by decide +kernel
theorem dX10_letter_24 : decode cX10_letter 24 = .ok (.aload_n 0, 1) := by decide +kernel
theorem dX10_letter_25 : decode cX10_letter 25 = .ok (.getfield 49, 3) := by decide +kernel
theorem dX10_letter_28 : decode cX10_letter 28 = .ok (.iload_n 1, 1) := by decide +kernel
theorem dX10_letter_29 : decode cX10_letter 29 = .ok (.iload_n 2, 1) := by decide +kernel
theorem dX10_letter_30 : decode cX10_letter 30 = .ok (.invokevirtual 160, 3) := by decide +kernel
theorem dX10_letter_33 : decode cX10_letter 33 = .ok (.ireturn, 1) := by decide +kernel
theorem dX10_foreseen_0 : decode cX10_foreseen 0 = .ok (.aload_n 0, 1) := by decide +kernel
theorem dX10_foreseen_1 : decode cX10_foreseen 1 = .ok (.getfield 58, 3) := by decide +kernel
theorem dX10_foreseen_4 : decode cX10_foreseen 4 = .ok (.invokevirtual 163, 3) := by decide +kernel
theorem dX10_foreseen_7 : decode cX10_foreseen 7 = .ok (.aload_n 0, 1) := by decide +kernel
theorem dX10_foreseen_8 : decode cX10_foreseen 8 = .ok (.getfield 58, 3) := by decide +kernel
theorem dX10_foreseen_11 : decode cX10_foreseen 11 = .ok (.iload_n 1, 1) := by decide +kernel
theorem dX10_foreseen_12 : decode cX10_foreseen 12 = .ok (.invokevirtual 166, 3) := by decide +kernel
theorem dX10_foreseen_15 : decode cX10_foreseen 15 = .ok (.ireturn, 1) := by decide +kernel
theorem dX10_offered_0 : decode cX10_offered 0 = .ok (.aload_n 0, 1) := by decide +kernel
theorem dX10_offered_1 : decode cX10_offered 1 = .ok (.getfield 58, 3) := by decide +kernel
theorem dX10_offered_4 : decode cX10_offered 4 = .ok (.invokevirtual 169, 3) := by decide +kernel
theorem dX10_offered_7 : decode cX10_offered 7 = .ok (.aload_n 0, 1) := by decide +kernel
theorem dX10_offered_8 : decode cX10_offered 8 = .ok (.getfield 58, 3) := by decide +kernel
theorem dX10_offered_11 : decode cX10_offered 11 = .ok (.iload_n 1, 1) := by decide +kernel
theorem dX10_offered_12 : decode cX10_offered 12 = .ok (.invokevirtual 166, 3) := by decide +kernel
theorem dX10_offered_15 : decode cX10_offered 15 = .ok (.ireturn, 1) := by decide +kernel
theorem dX10_near_0 : decode cX10_near 0 = .ok (.iload_n 1, 1) := by decide +kernel
theorem dX10_near_1 : decode cX10_near 1 = .ok (.invokestatic 172, 3) := by decide +kernel
theorem dX10_near_4 : decode cX10_near 4 = .ok (.ifCond .eq 10, 3) := by decide +kernel
theorem dX10_near_7 : decode cX10_near 7 = .ok (.iload_n 2, 1) := by decide +kernel
theorem dX10_near_8 : decode cX10_near 8 = .ok (.invokestatic 172, 3) := by decide +kernel
theorem dX10_near_11 : decode cX10_near 11 = .ok (.ifCond .ne 5, 3) := by decide +kernel
theorem dX10_near_14 : decode cX10_near 14 = .ok (.iconst (-1), 1) := by decide +kernel
theorem dX10_near_15 : decode cX10_near 15 = .ok (.ireturn, 1) := by decide +kernel
theorem dX10_near_16 : decode cX10_near 16 = .ok (.aload_n 0, 1) := by decide +kernel
theorem dX10_near_17 : decode cX10_near 17 = .ok (.getfield 19, 3) := by decide +kernel
theorem dX10_near_20 : decode cX10_near 20 = .ok (.iload_n 1, 1) := by decide +kernel
theorem dX10_near_21 : decode cX10_near 21 = .ok (.iload_n 2, 1) := by decide +kernel
theorem dX10_near_22 : decode cX10_near 22 = .ok (.invokevirtual 175, 3) := by decide +kernel
theorem dX10_near_25 : decode cX10_near 25 = .ok (.ifCond .eq 7, 3) := by decide +kernel
theorem dX10_near_28 : decode cX10_near 28 = .ok (.iconst 1, 1) := by decide +kernel
theorem dX10_near_29 : decode cX10_near 29 = .ok (.goto 4, 3) := by decide +kernel
theorem dX10_near_32 : decode cX10_near 32 = .ok (.iconst 0, 1) := by decide +kernel
theorem dX10_near_33 : decode cX10_near 33 = .ok (.ireturn, 1) := by decide +kernel
theorem dX10_share_0 : decode cX10_share 0 = .ok (.aload_n 0, 1) := by decide +kernel
theorem dX10_share_1 : decode cX10_share 1 = .ok (.getfield 65, 3) := by decide +kernel
theorem dX10_share_4 : decode cX10_share 4 = .ok (.iload_n 1, 1) := by decide +kernel
theorem dX10_share_5 : decode cX10_share 5 = .ok (.iload_n 2, 1) := by decide +kernel
theorem dX10_share_6 : decode cX10_share 6 = .ok (.invokevirtual 178, 3) := by decide +kernel
theorem dX10_share_9 : decode cX10_share 9 = .ok (.ireturn, 1) := by decide +kernel
theorem dX10_cost_0 : decode cX10_cost 0 = .ok (.aload_n 0, 1) := by decide +kernel
theorem dX10_cost_1 : decode cX10_cost 1 = .ok (.getfield 65, 3) := by decide +kernel
theorem dX10_cost_4 : decode cX10_cost 4 = .ok (.iload_n 1, 1) := by decide +kernel
theorem dX10_cost_5 : decode cX10_cost 5 = .ok (.invokevirtual 179, 3) := by decide +kernel
theorem dX10_cost_8 : decode cX10_cost 8 = .ok (.ireturn, 1) := by decide +kernel
theorem dX10_mean_0 : decode cX10_mean 0 = .ok (.aload_n 0, 1) := by decide +kernel
theorem dX10_mean_1 : decode cX10_mean 1 = .ok (.getfield 65, 3) := by decide +kernel
theorem dX10_mean_4 : decode cX10_mean 4 = .ok (.iload_n 1, 1) := by decide +kernel
theorem dX10_mean_5 : decode cX10_mean 5 = .ok (.invokevirtual 182, 3) := by decide +kernel
theorem dX10_mean_8 : decode cX10_mean 8 = .ok (.lreturn, 1) := by decide +kernel
theorem dX10_lay_0 : decode cX10_lay 0 = .ok (.aload_n 0, 1) := by decide +kernel
theorem dX10_lay_1 : decode cX10_lay 1 = .ok (.getfield 42, 3) := by decide +kernel
theorem dX10_lay_4 : decode cX10_lay 4 = .ok (.invokevirtual 186, 3) := by decide +kernel
theorem dX10_lay_7 : decode cX10_lay 7 = .ok (.ifCond .ne 5, 3) := by decide +kernel
theorem dX10_lay_10 : decode cX10_lay 10 = .ok (.iconst (-1), 1) := by decide +kernel
theorem dX10_lay_11 : decode cX10_lay 11 = .ok (.ireturn, 1) := by decide +kernel
theorem dX10_lay_12 : decode cX10_lay 12 = .ok (.aload_n 0, 1) := by decide +kernel
theorem dX10_lay_13 : decode cX10_lay 13 = .ok (.getfield 74, 3) := by decide +kernel
theorem dX10_lay_16 : decode cX10_lay 16 = .ok (.aload_n 0, 1) := by decide +kernel
theorem dX10_lay_17 : decode cX10_lay 17 = .ok (.getfield 65, 3) := by decide +kernel
theorem dX10_lay_20 : decode cX10_lay 20 = .ok (.invokevirtual 190, 3) := by decide +kernel
theorem dX10_lay_23 : decode cX10_lay 23 = .ok (.istore_n 1, 1) := by decide +kernel
theorem dX10_lay_24 : decode cX10_lay 24 = .ok (.aload_n 0, 1) := by decide +kernel
theorem dX10_lay_25 : decode cX10_lay 25 = .ok (.getfield 19, 3) := by decide +kernel
theorem dX10_lay_28 : decode cX10_lay 28 = .ok (.invokevirtual 85, 3) := by decide +kernel
theorem dX10_lay_31 : decode cX10_lay 31 = .ok (.aload_n 0, 1) := by decide +kernel
theorem dX10_lay_32 : decode cX10_lay 32 = .ok (.getfield 74, 3) := by decide +kernel
theorem dX10_lay_35 : decode cX10_lay 35 = .ok (.aload_n 0, 1) := by decide +kernel
theorem dX10_lay_36 : decode cX10_lay 36 = .ok (.getfield 19, 3) := by decide +kernel
theorem dX10_lay_39 : decode cX10_lay 39 = .ok (.invokevirtual 194, 3) := by decide +kernel
theorem dX10_lay_42 : decode cX10_lay 42 = .ok (.aload_n 0, 1) := by decide +kernel
theorem dX10_lay_43 : decode cX10_lay 43 = .ok (.getfield 42, 3) := by decide +kernel
theorem dX10_lay_46 : decode cX10_lay 46 = .ok (.iconst 0, 1) := by decide +kernel
theorem dX10_lay_47 : decode cX10_lay 47 = .ok (.invokevirtual 151, 3) := by decide +kernel
theorem dX10_lay_50 : decode cX10_lay 50 = .ok (.pop, 1) := by decide +kernel
theorem dX10_lay_51 : decode cX10_lay 51 = .ok (.aload_n 0, 1) := by decide +kernel
theorem dX10_lay_52 : decode cX10_lay 52 = .ok (.invokevirtual 82, 3) := by decide +kernel
theorem dX10_lay_55 : decode cX10_lay 55 = .ok (.iload_n 1, 1) := by decide +kernel
theorem dX10_lay_56 : decode cX10_lay 56 = .ok (.ireturn, 1) := by decide +kernel
theorem dX10_count_0 : decode cX10_count 0 = .ok (.iload_n 1, 1) := by decide +kernel
theorem dX10_count_1 : decode cX10_count 1 = .ok (.tableswitch 101 0 5 #[39, 47, 55, 63, 71, 86], 39) := by decide +kernel
theorem dX10_count_40 : decode cX10_count 40 = .ok (.aload_n 0, 1) := by decide +kernel
theorem dX10_count_41 : decode cX10_count 41 = .ok (.getfield 19, 3) := by decide +kernel
theorem dX10_count_44 : decode cX10_count 44 = .ok (.invokevirtual 198, 3) := by decide +kernel
theorem dX10_count_47 : decode cX10_count 47 = .ok (.ireturn, 1) := by decide +kernel
theorem dX10_count_48 : decode cX10_count 48 = .ok (.aload_n 0, 1) := by decide +kernel
theorem dX10_count_49 : decode cX10_count 49 = .ok (.getfield 49, 3) := by decide +kernel
theorem dX10_count_52 : decode cX10_count 52 = .ok (.invokevirtual 200, 3) := by decide +kernel
theorem dX10_count_55 : decode cX10_count 55 = .ok (.ireturn, 1) := by decide +kernel
theorem dX10_count_56 : decode cX10_count 56 = .ok (.aload_n 0, 1) := by decide +kernel
theorem dX10_count_57 : decode cX10_count 57 = .ok (.getfield 42, 3) := by decide +kernel
theorem dX10_count_60 : decode cX10_count 60 = .ok (.invokevirtual 201, 3) := by decide +kernel
theorem dX10_count_63 : decode cX10_count 63 = .ok (.ireturn, 1) := by decide +kernel
theorem dX10_count_64 : decode cX10_count 64 = .ok (.aload_n 0, 1) := by decide +kernel
theorem dX10_count_65 : decode cX10_count 65 = .ok (.getfield 35, 3) := by decide +kernel
theorem dX10_count_68 : decode cX10_count 68 = .ok (.invokevirtual 202, 3) := by decide +kernel
theorem dX10_count_71 : decode cX10_count 71 = .ok (.ireturn, 1) := by decide +kernel
theorem dX10_count_72 : decode cX10_count 72 = .ok (.aload_n 0, 1) := by decide +kernel
theorem dX10_count_73 : decode cX10_count 73 = .ok (.getfield 58, 3) := by decide +kernel
theorem dX10_count_76 : decode cX10_count 76 = .ok (.invokevirtual 163, 3) := by decide +kernel
theorem dX10_count_79 : decode cX10_count 79 = .ok (.aload_n 0, 1) := by decide +kernel
theorem dX10_count_80 : decode cX10_count 80 = .ok (.getfield 58, 3) := by decide +kernel
theorem dX10_count_83 : decode cX10_count 83 = .ok (.invokevirtual 205, 3) := by decide +kernel
theorem dX10_count_86 : decode cX10_count 86 = .ok (.ireturn, 1) := by decide +kernel
theorem dX10_count_87 : decode cX10_count 87 = .ok (.aload_n 0, 1) := by decide +kernel
theorem dX10_count_88 : decode cX10_count 88 = .ok (.getfield 58, 3) := by decide +kernel
theorem dX10_count_91 : decode cX10_count 91 = .ok (.invokevirtual 169, 3) := by decide +kernel
theorem dX10_count_94 : decode cX10_count 94 = .ok (.aload_n 0, 1) := by decide +kernel
theorem dX10_count_95 : decode cX10_count 95 = .ok (.getfield 58, 3) := by decide +kernel
theorem dX10_count_98 : decode cX10_count 98 = .ok (.invokevirtual 205, 3) := by decide +kernel
theorem dX10_count_101 : decode cX10_count 101 = .ok (.ireturn, 1) := by decide +kernel
theorem dX10_count_102 : decode cX10_count 102 = .ok (.iconst (-1), 1) := by decide +kernel
theorem dX10_count_103 : decode cX10_count 103 = .ok (.ireturn, 1) := by decide +kernel
theorem dX10_showTrayAnew_0 : decode cX10_showTrayAnew 0 = .ok (.aload_n 0, 1) := by decide +kernel
theorem dX10_showTrayAnew_1 : decode cX10_showTrayAnew 1 = .ok (.getfield 19, 3) := by decide +kernel
theorem dX10_showTrayAnew_4 : decode cX10_showTrayAnew 4 = .ok (.invokevirtual 208, 3) := by decide +kernel
theorem dX10_showTrayAnew_7 : decode cX10_showTrayAnew 7 = .ok (.aload_n 0, 1) := by decide +kernel
theorem dX10_showTrayAnew_8 : decode cX10_showTrayAnew 8 = .ok (.getfield 28, 3) := by decide +kernel
theorem dX10_showTrayAnew_11 : decode cX10_showTrayAnew 11 = .ok (.iconst 0, 1) := by decide +kernel
theorem dX10_showTrayAnew_12 : decode cX10_showTrayAnew 12 = .ok (.invokevirtual 119, 3) := by decide +kernel
theorem dX10_showTrayAnew_15 : decode cX10_showTrayAnew 15 = .ok (.return_, 1) := by decide +kernel
theorem dX10_act_0 : decode cX10_act 0 = .ok (.aload_n 0, 1) := by decide +kernel
theorem dX10_act_1 : decode cX10_act 1 = .ok (.getfield 19, 3) := by decide +kernel
theorem dX10_act_4 : decode cX10_act 4 = .ok (.iload_n 1, 1) := by decide +kernel
theorem dX10_act_5 : decode cX10_act 5 = .ok (.invokevirtual 96, 3) := by decide +kernel
theorem dX10_act_8 : decode cX10_act 8 = .ok (.istore_n 2, 1) := by decide +kernel
theorem dX10_act_9 : decode cX10_act 9 = .ok (.aload_n 0, 1) := by decide +kernel
theorem dX10_act_10 : decode cX10_act 10 = .ok (.getfield 19, 3) := by decide +kernel
theorem dX10_act_13 : decode cX10_act 13 = .ok (.iload_n 1, 1) := by decide +kernel
theorem dX10_act_14 : decode cX10_act 14 = .ok (.invokevirtual 92, 3) := by decide +kernel
theorem dX10_act_17 : decode cX10_act 17 = .ok (.tableswitch 140 1 6 #[39, 50, 60, 80, 70, 110], 39) := by decide +kernel
theorem dX10_act_56 : decode cX10_act 56 = .ok (.aload_n 0, 1) := by decide +kernel
theorem dX10_act_57 : decode cX10_act 57 = .ok (.getfield 35, 3) := by decide +kernel
theorem dX10_act_60 : decode cX10_act 60 = .ok (.iload_n 2, 1) := by decide +kernel
theorem dX10_act_61 : decode cX10_act 61 = .ok (.invokevirtual 211, 3) := by decide +kernel
theorem dX10_act_64 : decode cX10_act 64 = .ok (.goto 93, 3) := by decide +kernel
theorem dX10_act_67 : decode cX10_act 67 = .ok (.aload_n 0, 1) := by decide +kernel
theorem dX10_act_68 : decode cX10_act 68 = .ok (.getfield 35, 3) := by decide +kernel
theorem dX10_act_71 : decode cX10_act 71 = .ok (.invokevirtual 214, 3) := by decide +kernel
theorem dX10_act_74 : decode cX10_act 74 = .ok (.goto 83, 3) := by decide +kernel
theorem dX10_act_77 : decode cX10_act 77 = .ok (.aload_n 0, 1) := by decide +kernel
theorem dX10_act_78 : decode cX10_act 78 = .ok (.getfield 35, 3) := by decide +kernel
theorem dX10_act_81 : decode cX10_act 81 = .ok (.invokevirtual 217, 3) := by decide +kernel
theorem dX10_act_84 : decode cX10_act 84 = .ok (.goto 73, 3) := by decide +kernel
theorem dX10_act_87 : decode cX10_act 87 = .ok (.aload_n 0, 1) := by decide +kernel
theorem dX10_act_88 : decode cX10_act 88 = .ok (.getfield 35, 3) := by decide +kernel
theorem dX10_act_91 : decode cX10_act 91 = .ok (.invokevirtual 220, 3) := by decide +kernel
theorem dX10_act_94 : decode cX10_act 94 = .ok (.goto 63, 3) := by decide +kernel
theorem dX10_act_97 : decode cX10_act 97 = .ok (.aload_n 0, 1) := by decide +kernel
theorem dX10_act_98 : decode cX10_act 98 = .ok (.getfield 58, 3) := by decide +kernel
theorem dX10_act_101 : decode cX10_act 101 = .ok (.invokevirtual 163, 3) := by decide +kernel
theorem dX10_act_104 : decode cX10_act 104 = .ok (.aload_n 0, 1) := by decide +kernel
theorem dX10_act_105 : decode cX10_act 105 = .ok (.getfield 35, 3) := by decide +kernel
theorem dX10_act_108 : decode cX10_act 108 = .ok (.aload_n 0, 1) := by decide +kernel
theorem dX10_act_109 : decode cX10_act 109 = .ok (.getfield 49, 3) := by decide +kernel
theorem dX10_act_112 : decode cX10_act 112 = .ok (.aload_n 0, 1) := by decide +kernel
theorem dX10_act_113 : decode cX10_act 113 = .ok (.getfield 58, 3) := by decide +kernel
theorem dX10_act_116 : decode cX10_act 116 = .ok (.iload_n 2, 1) := by decide +kernel
theorem dX10_act_117 : decode cX10_act 117 = .ok (.invokevirtual 166, 3) := by decide +kernel
theorem dX10_act_120 : decode cX10_act 120 = .ok (.iconst 1, 1) := by decide +kernel
theorem dX10_act_121 : decode cX10_act 121 = .ok (.invokevirtual 223, 3) := by decide +kernel
theorem dX10_act_124 : decode cX10_act 124 = .ok (.goto 33, 3) := by decide +kernel
theorem dX10_act_127 : decode cX10_act 127 = .ok (.aload_n 0, 1) := by decide +kernel
theorem dX10_act_128 : decode cX10_act 128 = .ok (.getfield 58, 3) := by decide +kernel
theorem dX10_act_131 : decode cX10_act 131 = .ok (.invokevirtual 169, 3) := by decide +kernel
theorem dX10_act_134 : decode cX10_act 134 = .ok (.aload_n 0, 1) := by decide +kernel
theorem dX10_act_135 : decode cX10_act 135 = .ok (.getfield 35, 3) := by decide +kernel
theorem dX10_act_138 : decode cX10_act 138 = .ok (.aload_n 0, 1) := by decide +kernel
theorem dX10_act_139 : decode cX10_act 139 = .ok (.getfield 49, 3) := by decide +kernel
theorem dX10_act_142 : decode cX10_act 142 = .ok (.aload_n 0, 1) := by decide +kernel
theorem dX10_act_143 : decode cX10_act 143 = .ok (.getfield 58, 3) := by decide +kernel
theorem dX10_act_146 : decode cX10_act 146 = .ok (.iload_n 2, 1) := by decide +kernel
theorem dX10_act_147 : decode cX10_act 147 = .ok (.invokevirtual 166, 3) := by decide +kernel
theorem dX10_act_150 : decode cX10_act 150 = .ok (.iconst 0, 1) := by decide +kernel
theorem dX10_act_151 : decode cX10_act 151 = .ok (.invokevirtual 223, 3) := by decide +kernel
theorem dX10_act_154 : decode cX10_act 154 = .ok (.goto 3, 3) := by decide +kernel
theorem dX10_act_157 : decode cX10_act 157 = .ok (.return_, 1) := by decide +kernel
theorem dX10_isLetter_0 : decode cX10_isLetter 0 = .ok (.iload_n 0, 1) := by decide +kernel
theorem dX10_isLetter_1 : decode cX10_isLetter 1 = .ok (.bipush 97, 2) := by decide +kernel
theorem dX10_isLetter_3 : decode cX10_isLetter 3 = .ok (.if_icmp .lt 13, 3) := by decide +kernel
theorem dX10_isLetter_6 : decode cX10_isLetter 6 = .ok (.iload_n 0, 1) := by decide +kernel
theorem dX10_isLetter_7 : decode cX10_isLetter 7 = .ok (.bipush 123, 2) := by decide +kernel
theorem dX10_isLetter_9 : decode cX10_isLetter 9 = .ok (.if_icmp .ge 7, 3) := by decide +kernel
theorem dX10_isLetter_12 : decode cX10_isLetter 12 = .ok (.iconst 1, 1) := by decide +kernel
theorem dX10_isLetter_13 : decode cX10_isLetter 13 = .ok (.goto 4, 3) := by decide +kernel
theorem dX10_isLetter_16 : decode cX10_isLetter 16 = .ok (.iconst 0, 1) := by decide +kernel
theorem dX10_isLetter_17 : decode cX10_isLetter 17 = .ok (.ireturn, 1) := by decide +kernel
theorem dX10_within_0 : decode cX10_within 0 = .ok (.iload_n 0, 1) := by decide +kernel
theorem dX10_within_1 : decode cX10_within 1 = .ok (.iload_n 1, 1) := by decide +kernel
theorem dX10_within_2 : decode cX10_within 2 = .ok (.if_icmp .lt 12, 3) := by decide +kernel
theorem dX10_within_5 : decode cX10_within 5 = .ok (.iload_n 0, 1) := by decide +kernel
theorem dX10_within_6 : decode cX10_within 6 = .ok (.iload_n 2, 1) := by decide +kernel
theorem dX10_within_7 : decode cX10_within 7 = .ok (.if_icmp .gt 7, 3) := by decide +kernel
theorem dX10_within_10 : decode cX10_within 10 = .ok (.iconst 1, 1) := by decide +kernel
theorem dX10_within_11 : decode cX10_within 11 = .ok (.goto 4, 3) := by decide +kernel
theorem dX10_within_14 : decode cX10_within 14 = .ok (.iconst 0, 1) := by decide +kernel
theorem dX10_within_15 : decode cX10_within 15 = .ok (.ireturn, 1) := by decide +kernel
end
section
theorem dX11_init_0 : decode cX11_init 0 = .ok (.aload_n 0, 1) := by decide +kernel
theorem dX11_init_1 : decode cX11_init 1 = .ok (.invokespecial 3, 3) := by decide +kernel
theorem dX11_init_4 : decode cX11_init 4 = .ok (.aload_n 0, 1) := by decide +kernel
theorem dX11_init_5 : decode cX11_init 5 = .ok (.bipush 60, 2) := by decide +kernel
theorem dX11_init_7 : decode cX11_init 7 = .ok (.newarray .int, 2) := by decide +kernel
theorem dX11_init_9 : decode cX11_init 9 = .ok (.putfield 9, 3) := by decide +kernel
theorem dX11_init_12 : decode cX11_init 12 = .ok (.aload_n 0, 1) := by decide +kernel
theorem dX11_init_13 : decode cX11_init 13 = .ok (.bipush 60, 2) := by decide +kernel
theorem dX11_init_15 : decode cX11_init 15 = .ok (.newarray .int, 2) := by decide +kernel
theorem dX11_init_17 : decode cX11_init 17 = .ok (.putfield 13, 3) := by decide +kernel
theorem dX11_init_20 : decode cX11_init 20 = .ok (.aload_n 0, 1) := by decide +kernel
theorem dX11_init_21 : decode cX11_init 21 = .ok (.bipush 60, 2) := by decide +kernel
theorem dX11_init_23 : decode cX11_init 23 = .ok (.newarray .int, 2) := by decide +kernel
theorem dX11_init_25 : decode cX11_init 25 = .ok (.putfield 16, 3) := by decide +kernel
theorem dX11_init_28 : decode cX11_init 28 = .ok (.aload_n 0, 1) := by decide +kernel
theorem dX11_init_29 : decode cX11_init 29 = .ok (.iconst 5, 1) := by decide +kernel
theorem dX11_init_30 : decode cX11_init 30 = .ok (.newarray .int, 2) := by decide +kernel
theorem dX11_init_32 : decode cX11_init 32 = .ok (.dup, 1) := by decide +kernel
theorem dX11_init_33 : decode cX11_init 33 = .ok (.iconst 0, 1) := by decide +kernel
theorem dX11_init_34 : decode cX11_init 34 = .ok (.iconst 4, 1) := by decide +kernel
theorem dX11_init_35 : decode cX11_init 35 = .ok (.iastore, 1) := by decide +kernel
theorem dX11_init_36 : decode cX11_init 36 = .ok (.dup, 1) := by decide +kernel
theorem dX11_init_37 : decode cX11_init 37 = .ok (.iconst 1, 1) := by decide +kernel
theorem dX11_init_38 : decode cX11_init 38 = .ok (.iconst 2, 1) := by decide +kernel
theorem dX11_init_39 : decode cX11_init 39 = .ok (.iastore, 1) := by decide +kernel
theorem dX11_init_40 : decode cX11_init 40 = .ok (.dup, 1) := by decide +kernel
theorem dX11_init_41 : decode cX11_init 41 = .ok (.iconst 2, 1) := by decide +kernel
theorem dX11_init_42 : decode cX11_init 42 = .ok (.iconst 0, 1) := by decide +kernel
theorem dX11_init_43 : decode cX11_init 43 = .ok (.iastore, 1) := by decide +kernel
theorem dX11_init_44 : decode cX11_init 44 = .ok (.dup, 1) := by decide +kernel
theorem dX11_init_45 : decode cX11_init 45 = .ok (.iconst 3, 1) := by decide +kernel
theorem dX11_init_46 : decode cX11_init 46 = .ok (.iconst 0, 1) := by decide +kernel
theorem dX11_init_47 : decode cX11_init 47 = .ok (.iastore, 1) := by decide +kernel
theorem dX11_init_48 : decode cX11_init 48 = .ok (.dup, 1) := by decide +kernel
theorem dX11_init_49 : decode cX11_init 49 = .ok (.iconst 4, 1) := by decide +kernel
theorem dX11_init_50 : decode cX11_init 50 = .ok (.iconst 2, 1) := by decide +kernel
theorem dX11_init_51 : decode cX11_init 51 = .ok (.iastore, 1) := by decide +kernel
theorem dX11_init_52 : decode cX11_init 52 = .ok (.putfield 19, 3) := by decide +kernel
theorem dX11_init_55 : decode cX11_init 55 = .ok (.aload_n 0, 1) := by decide +kernel
theorem dX11_init_56 : decode cX11_init 56 = .ok (.iconst 1, 1) := by decide +kernel
theorem dX11_init_57 : decode cX11_init 57 = .ok (.putfield 22, 3) := by decide +kernel
theorem dX11_init_60 : decode cX11_init 60 = .ok (.aload_n 0, 1) := by decide +kernel
theorem dX11_init_61 : decode cX11_init 61 = .ok (.bipush 60, 2) := by decide +kernel
theorem dX11_init_63 : decode cX11_init 63 = .ok (.newarray .boolean, 2) := by decide +kernel
theorem dX11_init_65 : decode cX11_init 65 = .ok (.putfield 26, 3) := by decide +kernel
theorem dX11_init_68 : decode cX11_init 68 = .ok (.aload_n 0, 1) := by decide +kernel
theorem dX11_init_69 : decode cX11_init 69 = .ok (.sipush 3600, 3) := by decide +kernel
theorem dX11_init_72 : decode cX11_init 72 = .ok (.newarray .int, 2) := by decide +kernel
theorem dX11_init_74 : decode cX11_init 74 = .ok (.putfield 30, 3) := by decide +kernel
theorem dX11_init_77 : decode cX11_init 77 = .ok (.aload_n 0, 1) := by decide +kernel
theorem dX11_init_78 : decode cX11_init 78 = .ok (.bipush 60, 2) := by decide +kernel
theorem dX11_init_80 : decode cX11_init 80 = .ok (.newarray .int, 2) := by decide +kernel
theorem dX11_init_82 : decode cX11_init 82 = .ok (.putfield 33, 3) := by decide +kernel
theorem dX11_init_85 : decode cX11_init 85 = .ok (.aload_n 0, 1) := by decide +kernel
theorem dX11_init_86 : decode cX11_init 86 = .ok (.bipush 60, 2) := by decide +kernel
theorem dX11_init_88 : decode cX11_init 88 = .ok (.newarray .int, 2) := by decide +kernel
theorem dX11_init_90 : decode cX11_init 90 = .ok (.putfield 36, 3) := by decide +kernel
theorem dX11_init_93 : decode cX11_init 93 = .ok (.aload_n 0, 1) := by decide +kernel
theorem dX11_init_94 : decode cX11_init 94 = .ok (.iconst (-1), 1) := by decide +kernel
theorem dX11_init_95 : decode cX11_init 95 = .ok (.putfield 39, 3) := by decide +kernel
theorem dX11_init_98 : decode cX11_init 98 = .ok (.aload_n 0, 1) := by decide +kernel
theorem dX11_init_99 : decode cX11_init 99 = .ok (.iconst (-1), 1) := by decide +kernel
theorem dX11_init_100 : decode cX11_init 100 = .ok (.putfield 42, 3) := by decide +kernel
theorem dX11_init_103 : decode cX11_init 103 = .ok (.aload_n 0, 1) := by decide +kernel
theorem dX11_init_104 : decode cX11_init 104 = .ok (.sipush 200, 3) := by decide +kernel
theorem dX11_init_107 : decode cX11_init 107 = .ok (.newarray .byte, 2) := by decide +kernel
theorem dX11_init_109 : decode cX11_init 109 = .ok (.putfield 45, 3) := by decide +kernel
theorem dX11_init_112 : decode cX11_init 112 = .ok (.aload_n 0, 1) := by decide +kernel
theorem dX11_init_113 : decode cX11_init 113 = .ok (.sipush 200, 3) := by decide +kernel
theorem dX11_init_116 : decode cX11_init 116 = .ok (.newarray .byte, 2) := by decide +kernel
theorem dX11_init_118 : decode cX11_init 118 = .ok (.putfield 49, 3) := by decide +kernel
theorem dX11_init_121 : decode cX11_init 121 = .ok (.aload_n 0, 1) := by decide +kernel
theorem dX11_init_122 : decode cX11_init 122 = .ok (.sipush 20000, 3) := by decide +kernel
theorem dX11_init_125 : decode cX11_init 125 = .ok (.newarray .byte, 2) := by decide +kernel
theorem dX11_init_127 : decode cX11_init 127 = .ok (.putfield 52, 3) := by decide +kernel
theorem dX11_init_130 : decode cX11_init 130 = .ok (.aload_n 0, 1) := by decide +kernel
theorem dX11_init_131 : decode cX11_init 131 = .ok (.sipush 20000, 3) := by decide +kernel
theorem dX11_init_134 : decode cX11_init 134 = .ok (.newarray .byte, 2) := by decide +kernel
theorem dX11_init_136 : decode cX11_init 136 = .ok (.putfield 55, 3) := by decide +kernel
theorem dX11_init_139 : decode cX11_init 139 = .ok (.aload_n 0, 1) := by decide +kernel
theorem dX11_init_140 : decode cX11_init 140 = .ok (.bipush 100, 2) := by decide +kernel
theorem dX11_init_142 : decode cX11_init 142 = .ok (.newarray .int, 2) := by decide +kernel
theorem dX11_init_144 : decode cX11_init 144 = .ok (.putfield 58, 3) := by decide +kernel
theorem dX11_init_147 : decode cX11_init 147 = .ok (.aload_n 0, 1) := by decide +kernel
theorem dX11_init_148 : decode cX11_init 148 = .ok (.bipush 100, 2) := by decide +kernel
theorem dX11_init_150 : decode cX11_init 150 = .ok (.newarray .int, 2) := by decide +kernel
theorem dX11_init_152 : decode cX11_init 152 = .ok (.putfield 61, 3) := by decide +kernel
theorem dX11_init_155 : decode cX11_init 155 = .ok (.aload_n 0, 1) := by decide +kernel
theorem dX11_init_156 : decode cX11_init 156 = .ok (.iconst (-1), 1) := by decide +kernel
theorem dX11_init_157 : decode cX11_init 157 = .ok (.putfield 64, 3) := by decide +kernel
theorem dX11_init_160 : decode cX11_init 160 = .ok (.aload_n 0, 1) := by decide +kernel
theorem dX11_init_161 : decode cX11_init 161 = .ok (.bipush 26, 2) := by decide +kernel
theorem dX11_init_163 : decode cX11_init 163 = .ok (.newarray .byte, 2) := by decide +kernel
theorem dX11_init_165 : decode cX11_init 165 = .ok (.putfield 67, 3) := by decide +kernel
theorem dX11_init_168 : decode cX11_init 168 = .ok (.aload_n 0, 1) := by decide +kernel
theorem dX11_init_169 : decode cX11_init 169 = .ok (.sipush 480, 3) := by decide +kernel
theorem dX11_init_172 : decode cX11_init 172 = .ok (.newarray .byte, 2) := by decide +kernel
theorem dX11_init_174 : decode cX11_init 174 = .ok (.putfield 70, 3) := by decide +kernel
theorem dX11_init_177 : decode cX11_init 177 = .ok (.aload_n 0, 1) := by decide +kernel
theorem dX11_init_178 : decode cX11_init 178 = .ok (.bipush 40, 2) := by decide +kernel
theorem dX11_init_180 : decode cX11_init 180 = .ok (.newarray .int, 2) := by decide +kernel
theorem dX11_init_182 : decode cX11_init 182 = .ok (.putfield 73, 3) := by decide +kernel
theorem dX11_init_185 : decode cX11_init 185 = .ok (.aload_n 0, 1) := by decide +kernel
theorem dX11_init_186 : decode cX11_init 186 = .ok (.bipush 40, 2) := by decide +kernel
theorem dX11_init_188 : decode cX11_init 188 = .ok (.newarray .int, 2) := by decide +kernel
theorem dX11_init_190 : decode cX11_init 190 = .ok (.putfield 76, 3) := by decide +kernel
theorem dX11_init_193 : decode cX11_init 193 = .ok (.aload_n 0, 1) := by decide +kernel
theorem dX11_init_194 : decode cX11_init 194 = .ok (.bipush 40, 2) := by decide +kernel
theorem dX11_init_196 : decode cX11_init 196 = .ok (.newarray .int, 2) := by decide +kernel
theorem dX11_init_198 : decode cX11_init 198 = .ok (.putfield 79, 3) := by decide +kernel
theorem dX11_init_201 : decode cX11_init 201 = .ok (.aload_n 0, 1) := by decide +kernel
theorem dX11_init_202 : decode cX11_init 202 = .ok (.bipush 26, 2) := by decide +kernel
theorem dX11_init_204 : decode cX11_init 204 = .ok (.newarray .int, 2) := by decide +kernel
theorem dX11_init_206 : decode cX11_init 206 = .ok (.putfield 82, 3) := by decide +kernel
theorem dX11_init_209 : decode cX11_init 209 = .ok (.aload_n 0, 1) := by decide +kernel
theorem dX11_init_210 : decode cX11_init 210 = .ok (.sipush 20412, 3) := by decide +kernel
theorem dX11_init_213 : decode cX11_init 213 = .ok (.newarray .long, 2) := by decide +kernel
theorem dX11_init_215 : decode cX11_init 215 = .ok (.putfield 85, 3) := by decide +kernel
theorem dX11_init_218 : decode cX11_init 218 = .ok (.aload_n 0, 1) := by decide +kernel
theorem dX11_init_219 : decode cX11_init 219 = .ok (.sipush 729, 3) := by decide +kernel
theorem dX11_init_222 : decode cX11_init 222 = .ok (.newarray .long, 2) := by decide +kernel
theorem dX11_init_224 : decode cX11_init 224 = .ok (.putfield 89, 3) := by decide +kernel
theorem dX11_init_227 : decode cX11_init 227 = .ok (.aload_n 0, 1) := by decide +kernel
theorem dX11_init_228 : decode cX11_init 228 = .ok (.bipush 26, 2) := by decide +kernel
theorem dX11_init_230 : decode cX11_init 230 = .ok (.newarray .byte, 2) := by decide +kernel
theorem dX11_init_232 : decode cX11_init 232 = .ok (.putfield 92, 3) := by decide +kernel
theorem dX11_init_235 : decode cX11_init 235 = .ok (.aload_n 0, 1) := by decide +kernel
theorem dX11_init_236 : decode cX11_init 236 = .ok (.getfield 16, 3) := by decide +kernel
theorem dX11_init_239 : decode cX11_init 239 = .ok (.iconst 0, 1) := by decide +kernel
theorem dX11_init_240 : decode cX11_init 240 = .ok (.iconst (-1), 1) := by decide +kernel
theorem dX11_init_241 : decode cX11_init 241 = .ok (.iastore, 1) := by decide +kernel
theorem dX11_init_242 : decode cX11_init 242 = .ok (.aload_n 0, 1) := by decide +kernel
theorem dX11_init_243 : decode cX11_init 243 = .ok (.getfield 13, 3) := by decide +kernel
theorem dX11_init_246 : decode cX11_init 246 = .ok (.iconst 0, 1) := by decide +kernel
theorem dX11_init_247 : decode cX11_init 247 = .ok (.iconst (-1), 1) := by decide +kernel
theorem dX11_init_248 : decode cX11_init 248 = .ok (.iastore, 1) := by decide +kernel
theorem dX11_init_249 : decode cX11_init 249 = .ok (.aload_n 0, 1) := by decide +kernel
theorem dX11_init_250 : decode cX11_init 250 = .ok (.invokevirtual 95, 3) := by decide +kernel
theorem dX11_init_253 : decode cX11_init 253 = .ok (.return_, 1) := by decide +kernel
theorem dX11_thrown_0 : decode cX11_thrown 0 = .ok (.aload_n 0, 1) := by decide +kernel
theorem dX11_thrown_1 : decode cX11_thrown 1 = .ok (.getfield 98, 3) := by decide +kernel
theorem dX11_thrown_4 : decode cX11_thrown 4 = .ok (.ireturn, 1) := by decide +kernel
theorem dX11_isIn_0 : decode cX11_isIn 0 = .ok (.iload_n 0, 1) := by decide +kernel
theorem dX11_isIn_1 : decode cX11_isIn 1 = .ok (.iload_n 1, 1) := by decide +kernel
theorem dX11_isIn_2 : decode cX11_isIn 2 = .ok (.if_icmp .lt 12, 3) := by decide +kernel
theorem dX11_isIn_5 : decode cX11_isIn 5 = .ok (.iload_n 0, 1) := by decide +kernel
theorem dX11_isIn_6 : decode cX11_isIn 6 = .ok (.iload_n 2, 1) := by decide +kernel
theorem dX11_isIn_7 : decode cX11_isIn 7 = .ok (.if_icmp .gt 7, 3) := by decide +kernel
theorem dX11_isIn_10 : decode cX11_isIn 10 = .ok (.iconst 1, 1) := by decide +kernel
theorem dX11_isIn_11 : decode cX11_isIn 11 = .ok (.goto 4, 3) := by decide +kernel
theorem dX11_isIn_14 : decode cX11_isIn 14 = .ok (.iconst 0, 1) := by decide +kernel
theorem dX11_isIn_15 : decode cX11_isIn 15 = .ok (.ireturn, 1) := by decide +kernel
theorem dX11_isNode_0 : decode cX11_isNode 0 = .ok (.iload_n 1, 1) := by decide +kernel
theorem dX11_isNode_1 : decode cX11_isNode 1 = .ok (.ifCond .lt 15, 3) := by decide +kernel
theorem dX11_isNode_4 : decode cX11_isNode 4 = .ok (.iload_n 1, 1) := by decide +kernel
theorem dX11_isNode_5 : decode cX11_isNode 5 = .ok (.aload_n 0, 1) := by decide +kernel
theorem dX11_isNode_6 : decode cX11_isNode 6 = .ok (.getfield 22, 3) := by decide +kernel
theorem dX11_isNode_9 : decode cX11_isNode 9 = .ok (.if_icmp .ge 7, 3) := by decide +kernel
theorem dX11_isNode_12 : decode cX11_isNode 12 = .ok (.iconst 1, 1) := by decide +kernel
theorem dX11_isNode_13 : decode cX11_isNode 13 = .ok (.goto 4, 3) := by decide +kernel
theorem dX11_isNode_16 : decode cX11_isNode 16 = .ok (.iconst 0, 1) := by decide +kernel
theorem dX11_isNode_17 : decode cX11_isNode 17 = .ok (.ireturn, 1) := by decide +kernel
theorem dX11_isSmall_0 : decode cX11_isSmall 0 = .ok (.iload_n 0, 1) := by decide +kernel
theorem dX11_isSmall_1 : decode cX11_isSmall 1 = .ok (.bipush 97, 2) := by decide +kernel
theorem dX11_isSmall_3 : decode cX11_isSmall 3 = .ok (.if_icmp .lt 13, 3) := by decide +kernel
theorem dX11_isSmall_6 : decode cX11_isSmall 6 = .ok (.iload_n 0, 1) := by decide +kernel
theorem dX11_isSmall_7 : decode cX11_isSmall 7 = .ok (.bipush 122, 2) := by decide +kernel
theorem dX11_isSmall_9 : decode cX11_isSmall 9 = .ok (.if_icmp .gt 7, 3) := by decide +kernel
theorem dX11_isSmall_12 : decode cX11_isSmall 12 = .ok (.iconst 1, 1) := by decide +kernel
theorem dX11_isSmall_13 : decode cX11_isSmall 13 = .ok (.goto 4, 3) := by decide +kernel
theorem dX11_isSmall_16 : decode cX11_isSmall 16 = .ok (.iconst 0, 1) := by decide +kernel
theorem dX11_isSmall_17 : decode cX11_isSmall 17 = .ok (.ireturn, 1) := by decide +kernel
theorem dX11_looks_0 : decode cX11_looks 0 = .ok (.iconst 0, 1) := by decide +kernel
theorem dX11_looks_1 : decode cX11_looks 1 = .ok (.istore_n 1, 1) := by decide +kernel
theorem dX11_looks_2 : decode cX11_looks 2 = .ok (.iload_n 1, 1) := by decide +kernel
theorem dX11_looks_3 : decode cX11_looks 3 = .ok (.aload_n 0, 1) := by decide +kernel
theorem dX11_looks_4 : decode cX11_looks 4 = .ok (.getfield 22, 3) := by decide +kernel
theorem dX11_looks_7 : decode cX11_looks 7 = .ok (.if_icmp .ge 43, 3) := by decide +kernel
theorem dX11_looks_10 : decode cX11_looks 10 = .ok (.aload_n 0, 1) := by decide +kernel
theorem dX11_looks_11 : decode cX11_looks 11 = .ok (.getfield 26, 3) := by decide +kernel
theorem dX11_looks_14 : decode cX11_looks 14 = .ok (.iload_n 1, 1) := by decide +kernel
theorem dX11_looks_15 : decode cX11_looks 15 = .ok (.aload_n 0, 1) := by decide +kernel
theorem dX11_looks_16 : decode cX11_looks 16 = .ok (.getfield 9, 3) := by decide +kernel
theorem dX11_looks_19 : decode cX11_looks 19 = .ok (.iload_n 1, 1) := by decide +kernel
theorem dX11_looks_20 : decode cX11_looks 20 = .ok (.iaload, 1) := by decide +kernel
theorem dX11_looks_21 : decode cX11_looks 21 = .ok (.ifCond .eq 7, 3) := by decide +kernel
theorem dX11_looks_24 : decode cX11_looks 24 = .ok (.iconst 1, 1) := by decide +kernel
theorem dX11_looks_25 : decode cX11_looks 25 = .ok (.goto 4, 3) := by decide +kernel
theorem dX11_looks_28 : decode cX11_looks 28 = .ok (.iconst 0, 1) := by decide +kernel
theorem dX11_looks_29 : decode cX11_looks 29 = .ok (.bastore, 1) := by decide +kernel
theorem dX11_looks_30 : decode cX11_looks 30 = .ok (.aload_n 0, 1) := by decide +kernel
theorem dX11_looks_31 : decode cX11_looks 31 = .ok (.getfield 33, 3) := by decide +kernel
theorem dX11_looks_34 : decode cX11_looks 34 = .ok (.iload_n 1, 1) := by decide +kernel
theorem dX11_looks_35 : decode cX11_looks 35 = .ok (.iconst 0, 1) := by decide +kernel
theorem dX11_looks_36 : decode cX11_looks 36 = .ok (.iastore, 1) := by decide +kernel
theorem dX11_looks_37 : decode cX11_looks 37 = .ok (.aload_n 0, 1) := by decide +kernel
theorem dX11_looks_38 : decode cX11_looks 38 = .ok (.getfield 36, 3) := by decide +kernel
theorem dX11_looks_41 : decode cX11_looks 41 = .ok (.iload_n 1, 1) := by decide +kernel
theorem dX11_looks_42 : decode cX11_looks 42 = .ok (.iconst (-1), 1) := by decide +kernel
theorem dX11_looks_43 : decode cX11_looks 43 = .ok (.iastore, 1) := by decide +kernel
theorem dX11_looks_44 : decode cX11_looks 44 = .ok (.iinc 1 1, 3) := by decide +kernel
theorem dX11_looks_47 : decode cX11_looks 47 = .ok (.goto (-45), 3) := by decide +kernel
theorem dX11_looks_50 : decode cX11_looks 50 = .ok (.aload_n 0, 1) := by decide +kernel
theorem dX11_looks_51 : decode cX11_looks 51 = .ok (.getfield 22, 3) := by decide +kernel
theorem dX11_looks_54 : decode cX11_looks 54 = .ok (.iconst 1, 1) := by decide +kernel
theorem dX11_looks_55 : decode cX11_looks 55 = .ok (.isub, 1) := by decide +kernel
theorem dX11_looks_56 : decode cX11_looks 56 = .ok (.istore_n 1, 1) := by decide +kernel
theorem dX11_looks_57 : decode cX11_looks 57 = .ok (.iload_n 1, 1) := by decide +kernel
theorem dX11_looks_58 : decode cX11_looks 58 = .ok (.ifCond .le 48, 3) := by decide +kernel
theorem dX11_looks_61 : decode cX11_looks 61 = .ok (.aload_n 0, 1) := by decide +kernel
theorem dX11_looks_62 : decode cX11_looks 62 = .ok (.getfield 26, 3) := by decide +kernel
theorem dX11_looks_65 : decode cX11_looks 65 = .ok (.aload_n 0, 1) := by decide +kernel
theorem dX11_looks_66 : decode cX11_looks 66 = .ok (.getfield 16, 3) := by decide +kernel
theorem dX11_looks_69 : decode cX11_looks 69 = .ok (.iload_n 1, 1) := by decide +kernel
theorem dX11_looks_70 : decode cX11_looks 70 = .ok (.iaload, 1) := by decide +kernel
theorem dX11_looks_71 : decode cX11_looks 71 = .ok (.aload_n 0, 1) := by decide +kernel
theorem dX11_looks_72 : decode cX11_looks 72 = .ok (.getfield 26, 3) := by decide +kernel
theorem dX11_looks_75 : decode cX11_looks 75 = .ok (.aload_n 0, 1) := by decide +kernel
theorem dX11_looks_76 : decode cX11_looks 76 = .ok (.getfield 16, 3) := by decide +kernel
theorem dX11_looks_79 : decode cX11_looks 79 = .ok (.iload_n 1, 1) := by decide +kernel
theorem dX11_looks_80 : decode cX11_looks 80 = .ok (.iaload, 1) := by decide +kernel
theorem dX11_looks_81 : decode cX11_looks 81 = .ok (.baload, 1) := by decide +kernel
theorem dX11_looks_82 : decode cX11_looks 82 = .ok (.ifCond .ne 12, 3) := by decide +kernel
theorem dX11_looks_85 : decode cX11_looks 85 = .ok (.aload_n 0, 1) := by decide +kernel
theorem dX11_looks_86 : decode cX11_looks 86 = .ok (.getfield 26, 3) := by decide +kernel
theorem dX11_looks_89 : decode cX11_looks 89 = .ok (.iload_n 1, 1) := by decide +kernel
theorem dX11_looks_90 : decode cX11_looks 90 = .ok (.baload, 1) := by decide +kernel
theorem dX11_looks_91 : decode cX11_looks 91 = .ok (.ifCond .eq 7, 3) := by decide +kernel
theorem dX11_looks_94 : decode cX11_looks 94 = .ok (.iconst 1, 1) := by decide +kernel
theorem dX11_looks_95 : decode cX11_looks 95 = .ok (.goto 4, 3) := by decide +kernel
theorem dX11_looks_98 : decode cX11_looks 98 = .ok (.iconst 0, 1) := by decide +kernel
theorem dX11_looks_99 : decode cX11_looks 99 = .ok (.bastore, 1) := by decide +kernel
theorem dX11_looks_100 : decode cX11_looks 100 = .ok (.iinc 1 (-1), 3) := by decide +kernel
theorem dX11_looks_103 : decode cX11_looks 103 = .ok (.goto (-46), 3) := by decide +kernel
theorem dX11_looks_106 : decode cX11_looks 106 = .ok (.iconst 1, 1) := by decide +kernel
theorem dX11_looks_107 : decode cX11_looks 107 = .ok (.istore_n 1, 1) := by decide +kernel
theorem dX11_looks_108 : decode cX11_looks 108 = .ok (.iload_n 1, 1) := by decide +kernel
theorem dX11_looks_109 : decode cX11_looks 109 = .ok (.aload_n 0, 1) := by decide +kernel
theorem dX11_looks_110 : decode cX11_looks 110 = .ok (.getfield 22, 3) := by decide +kernel
theorem dX11_looks_113 : decode cX11_looks 113 = .ok (.if_icmp .ge 67, 3) := by decide +kernel
theorem dX11_looks_116 : decode cX11_looks 116 = .ok (.aload_n 0, 1) := by decide +kernel
theorem dX11_looks_117 : decode cX11_looks 117 = .ok (.getfield 26, 3) := by decide +kernel
theorem dX11_looks_120 : decode cX11_looks 120 = .ok (.iload_n 1, 1) := by decide +kernel
theorem dX11_looks_121 : decode cX11_looks 121 = .ok (.baload, 1) := by decide +kernel
theorem dX11_looks_122 : decode cX11_looks 122 = .ok (.ifCond .ne 6, 3) := by decide +kernel
theorem dX11_looks_125 : decode cX11_looks 125 = .ok (.goto 49, 3) := by decide +kernel
theorem dX11_looks_128 : decode cX11_looks 128 = .ok (.aload_n 0, 1) := by decide +kernel
theorem dX11_looks_129 : decode cX11_looks 129 = .ok (.getfield 16, 3) := by decide +kernel
theorem dX11_looks_132 : decode cX11_looks 132 = .ok (.iload_n 1, 1) := by decide +kernel
theorem dX11_looks_133 : decode cX11_looks 133 = .ok (.iaload, 1) := by decide +kernel
theorem dX11_looks_134 : decode cX11_looks 134 = .ok (.istore_n 2, 1) := by decide +kernel
theorem dX11_looks_135 : decode cX11_looks 135 = .ok (.aload_n 0, 1) := by decide +kernel
theorem dX11_looks_136 : decode cX11_looks 136 = .ok (.getfield 30, 3) := by decide +kernel
theorem dX11_looks_139 : decode cX11_looks 139 = .ok (.bipush 60, 2) := by decide +kernel
theorem dX11_looks_141 : decode cX11_looks 141 = .ok (.iload_n 2, 1) := by decide +kernel
theorem dX11_looks_142 : decode cX11_looks 142 = .ok (.imul, 1) := by decide +kernel
theorem dX11_looks_143 : decode cX11_looks 143 = .ok (.aload_n 0, 1) := by decide +kernel
theorem dX11_looks_144 : decode cX11_looks 144 = .ok (.getfield 33, 3) := by decide +kernel
theorem dX11_looks_147 : decode cX11_looks 147 = .ok (.iload_n 2, 1) := by decide +kernel
theorem dX11_looks_148 : decode cX11_looks 148 = .ok (.iaload, 1) := by decide +kernel
theorem dX11_looks_149 : decode cX11_looks 149 = .ok (.iadd, 1) := by decide +kernel
theorem dX11_looks_150 : decode cX11_looks 150 = .ok (.iload_n 1, 1) := by decide +kernel
theorem dX11_looks_151 : decode cX11_looks 151 = .ok (.iastore, 1) := by decide +kernel
theorem dX11_looks_152 : decode cX11_looks 152 = .ok (.aload_n 0, 1) := by decide +kernel
theorem dX11_looks_153 : decode cX11_looks 153 = .ok (.getfield 33, 3) := by decide +kernel
theorem dX11_looks_156 : decode cX11_looks 156 = .ok (.iload_n 2, 1) := by decide +kernel
theorem dX11_looks_157 : decode cX11_looks 157 = .ok (.dup2, 1) := by decide +kernel
theorem dX11_looks_158 : decode cX11_looks 158 = .ok (.iaload, 1) := by decide +kernel
theorem dX11_looks_159 : decode cX11_looks 159 = .ok (.iconst 1, 1) := by decide +kernel
theorem dX11_looks_160 : decode cX11_looks 160 = .ok (.iadd, 1) := by decide +kernel
theorem dX11_looks_161 : decode cX11_looks 161 = .ok (.iastore, 1) := by decide +kernel
theorem dX11_looks_162 : decode cX11_looks 162 = .ok (.aload_n 0, 1) := by decide +kernel
theorem dX11_looks_163 : decode cX11_looks 163 = .ok (.getfield 36, 3) := by decide +kernel
theorem dX11_looks_166 : decode cX11_looks 166 = .ok (.iload_n 1, 1) := by decide +kernel
theorem dX11_looks_167 : decode cX11_looks 167 = .ok (.aload_n 0, 1) := by decide +kernel
theorem dX11_looks_168 : decode cX11_looks 168 = .ok (.getfield 33, 3) := by decide +kernel
theorem dX11_looks_171 : decode cX11_looks 171 = .ok (.iload_n 2, 1) := by decide +kernel
theorem dX11_looks_172 : decode cX11_looks 172 = .ok (.iaload, 1) := by decide +kernel
theorem dX11_looks_173 : decode cX11_looks 173 = .ok (.iastore, 1) := by decide +kernel
theorem dX11_looks_174 : decode cX11_looks 174 = .ok (.iinc 1 1, 3) := by decide +kernel
theorem dX11_looks_177 : decode cX11_looks 177 = .ok (.goto (-69), 3) := by decide +kernel
theorem dX11_looks_180 : decode cX11_looks 180 = .ok (.return_, 1) := by decide +kernel
theorem dX11_hasKey_0 : decode cX11_hasKey 0 = .ok (.aload_n 0, 1) := by decide +kernel
theorem dX11_hasKey_1 : decode cX11_hasKey 1 = .ok (.getfield 26, 3) := by decide +kernel
theorem dX11_hasKey_4 : decode cX11_hasKey 4 = .ok (.iload_n 1, 1) := by decide +kernel
theorem dX11_hasKey_5 : decode cX11_hasKey 5 = .ok (.baload, 1) := by decide +kernel
theorem dX11_hasKey_6 : decode cX11_hasKey 6 = .ok (.ireturn, 1) := by decide +kernel
theorem dX11_light_0 : decode cX11_light 0 = .ok (.iload_n 2, 1) := by decide +kernel
theorem dX11_light_1 : decode cX11_light 1 = .ok (.aload_n 0, 1) := by decide +kernel
theorem dX11_light_2 : decode cX11_light 2 = .ok (.getfield 33, 3) := by decide +kernel
theorem dX11_light_5 : decode cX11_light 5 = .ok (.iload_n 1, 1) := by decide +kernel
theorem dX11_light_6 : decode cX11_light 6 = .ok (.iaload, 1) := by decide +kernel
theorem dX11_light_7 : decode cX11_light 7 = .ok (.if_icmp .ge 17, 3) := by decide +kernel
theorem dX11_light_10 : decode cX11_light 10 = .ok (.aload_n 0, 1) := by decide +kernel
theorem dX11_light_11 : decode cX11_light 11 = .ok (.getfield 30, 3) := by decide +kernel
theorem dX11_light_14 : decode cX11_light 14 = .ok (.bipush 60, 2) := by decide +kernel
theorem dX11_light_16 : decode cX11_light 16 = .ok (.iload_n 1, 1) := by decide +kernel
theorem dX11_light_17 : decode cX11_light 17 = .ok (.imul, 1) := by decide +kernel
theorem dX11_light_18 : decode cX11_light 18 = .ok (.iload_n 2, 1) := by decide +kernel
theorem dX11_light_19 : decode cX11_light 19 = .ok (.iadd, 1) := by decide +kernel
theorem dX11_light_20 : decode cX11_light 20 = .ok (.iaload, 1) := by decide +kernel
theorem dX11_light_21 : decode cX11_light 21 = .ok (.goto 4, 3) := by decide +kernel
theorem dX11_light_24 : decode cX11_light 24 = .ok (.iconst (-1), 1) := by decide +kernel
theorem dX11_light_25 : decode cX11_light 25 = .ok (.ireturn, 1) := by decide +kernel
theorem dX11_lights_0 : decode cX11_lights 0 = .ok (.aload_n 0, 1) := by decide +kernel
theorem dX11_lights_1 : decode cX11_lights 1 = .ok (.getfield 33, 3) := by decide +kernel
theorem dX11_lights_4 : decode cX11_lights 4 = .ok (.iload_n 1, 1) := by decide +kernel
theorem dX11_lights_5 : decode cX11_lights 5 = .ok (.iaload, 1) := by decide +kernel
theorem dX11_lights_6 : decode cX11_lights 6 = .ok (.ireturn, 1) := by decide +kernel
theorem dX11_placeOf_0 : decode cX11_placeOf 0 = .ok (.aload_n 0, 1) := by decide +kernel
theorem dX11_placeOf_1 : decode cX11_placeOf 1 = .ok (.getfield 36, 3) := by decide +kernel
theorem dX11_placeOf_4 : decode cX11_placeOf 4 = .ok (.iload_n 1, 1) := by decide +kernel
theorem dX11_placeOf_5 : decode cX11_placeOf 5 = .ok (.iaload, 1) := by decide +kernel
theorem dX11_placeOf_6 : decode cX11_placeOf 6 = .ok (.ireturn, 1) := by decide +kernel
theorem dX11_comes_0 : decode cX11_comes 0 = .ok (.aload_n 0, 1) := by decide +kernel
theorem dX11_comes_1 : decode cX11_comes 1 = .ok (.iload_n 1, 1) := by decide +kernel
theorem dX11_comes_2 : decode cX11_comes 2 = .ok (.putfield 101, 3) := by decide +kernel
theorem dX11_comes_5 : decode cX11_comes 5 = .ok (.aload_n 0, 1) := by decide +kernel
theorem dX11_comes_6 : decode cX11_comes 6 = .ok (.iconst 0, 1) := by decide +kernel
theorem dX11_comes_7 : decode cX11_comes 7 = .ok (.putfield 104, 3) := by decide +kernel
theorem dX11_comes_10 : decode cX11_comes 10 = .ok (.aload_n 0, 1) := by decide +kernel
theorem dX11_comes_11 : decode cX11_comes 11 = .ok (.iconst (-1), 1) := by decide +kernel
theorem dX11_comes_12 : decode cX11_comes 12 = .ok (.putfield 39, 3) := by decide +kernel
theorem dX11_comes_15 : decode cX11_comes 15 = .ok (.aload_n 0, 1) := by decide +kernel
theorem dX11_comes_16 : decode cX11_comes 16 = .ok (.aload_n 0, 1) := by decide +kernel
theorem dX11_comes_17 : decode cX11_comes 17 = .ok (.getfield 107, 3) := by decide +kernel
theorem dX11_comes_20 : decode cX11_comes 20 = .ok (.putfield 110, 3) := by decide +kernel
theorem dX11_comes_23 : decode cX11_comes 23 = .ok (.aload_n 0, 1) := by decide +kernel
theorem dX11_comes_24 : decode cX11_comes 24 = .ok (.iconst 0, 1) := by decide +kernel
theorem dX11_comes_25 : decode cX11_comes 25 = .ok (.putfield 113, 3) := by decide +kernel
theorem dX11_comes_28 : decode cX11_comes 28 = .ok (.return_, 1) := by decide +kernel
theorem dX11_node_0 : decode cX11_node 0 = .ok (.aload_n 0, 1) := by decide +kernel
theorem dX11_node_1 : decode cX11_node 1 = .ok (.iconst 0, 1) := by decide +kernel
theorem dX11_node_2 : decode cX11_node 2 = .ok (.putfield 98, 3) := by decide +kernel
theorem dX11_node_5 : decode cX11_node 5 = .ok (.aload_n 0, 1) := by decide +kernel
theorem dX11_node_6 : decode cX11_node 6 = .ok (.getfield 22, 3) := by decide +kernel
theorem dX11_node_9 : decode cX11_node 9 = .ok (.bipush 60, 2) := by decide +kernel
theorem dX11_node_11 : decode cX11_node 11 = .ok (.if_icmp .eq 30, 3) := by decide +kernel
theorem dX11_node_14 : decode cX11_node 14 = .ok (.aload_n 0, 1) := by decide +kernel
theorem dX11_node_15 : decode cX11_node 15 = .ok (.iload_n 1, 1) := by decide +kernel
theorem dX11_node_16 : decode cX11_node 16 = .ok (.invokevirtual 116, 3) := by decide +kernel
theorem dX11_node_19 : decode cX11_node 19 = .ok (.ifCond .eq 22, 3) := by decide +kernel
theorem dX11_node_22 : decode cX11_node 22 = .ok (.aload_n 0, 1) := by decide +kernel
theorem dX11_node_23 : decode cX11_node 23 = .ok (.getfield 9, 3) := by decide +kernel
theorem dX11_node_26 : decode cX11_node 26 = .ok (.iload_n 1, 1) := by decide +kernel
theorem dX11_node_27 : decode cX11_node 27 = .ok (.iaload, 1) := by decide +kernel
theorem dX11_node_28 : decode cX11_node 28 = .ok (.ifCond .ne 13, 3) := by decide +kernel
theorem dX11_node_31 : decode cX11_node 31 = .ok (.iload_n 2, 1) := by decide +kernel
theorem dX11_node_32 : decode cX11_node 32 = .ok (.iconst 0, 1) := by decide +kernel
theorem dX11_node_33 : decode cX11_node 33 = .ok (.bipush 6, 2) := by decide +kernel
theorem dX11_node_35 : decode cX11_node 35 = .ok (.invokestatic 120, 3) := by decide +kernel
theorem dX11_node_38 : decode cX11_node 38 = .ok (.ifCond .ne 5, 3) := by decide +kernel
theorem dX11_node_41 : decode cX11_node 41 = .ok (.iconst (-1), 1) := by decide +kernel
theorem dX11_node_42 : decode cX11_node 42 = .ok (.ireturn, 1) := by decide +kernel
theorem dX11_node_43 : decode cX11_node 43 = .ok (.iload_n 2, 1) := by decide +kernel
theorem dX11_node_44 : decode cX11_node 44 = .ok (.iconst 1, 1) := by decide +kernel
theorem dX11_node_45 : decode cX11_node 45 = .ok (.if_icmp .eq 14, 3) := by decide +kernel
theorem dX11_node_48 : decode cX11_node 48 = .ok (.iload_n 2, 1) := by decide +kernel
theorem dX11_node_49 : decode cX11_node 49 = .ok (.iconst 4, 1) := by decide +kernel
theorem dX11_node_50 : decode cX11_node 50 = .ok (.if_icmp .eq 9, 3) := by decide +kernel
theorem dX11_node_53 : decode cX11_node 53 = .ok (.iload_n 2, 1) := by decide +kernel
theorem dX11_node_54 : decode cX11_node 54 = .ok (.bipush 6, 2) := by decide +kernel
theorem dX11_node_56 : decode cX11_node 56 = .ok (.if_icmp .ne 7, 3) := by decide +kernel
theorem dX11_node_59 : decode cX11_node 59 = .ok (.iconst 1, 1) := by decide +kernel
theorem dX11_node_60 : decode cX11_node 60 = .ok (.goto 4, 3) := by decide +kernel
theorem dX11_node_63 : decode cX11_node 63 = .ok (.iconst 0, 1) := by decide +kernel
theorem dX11_node_64 : decode cX11_node 64 = .ok (.istore 4, 2) := by decide +kernel
theorem dX11_node_66 : decode cX11_node 66 = .ok (.iload_n 2, 1) := by decide +kernel
theorem dX11_node_67 : decode cX11_node 67 = .ok (.iconst 1, 1) := by decide +kernel
theorem dX11_node_68 : decode cX11_node 68 = .ok (.if_icmp .ne 19, 3) := by decide +kernel
theorem dX11_node_71 : decode cX11_node 71 = .ok (.iload_n 3, 1) := by decide +kernel
theorem dX11_node_72 : decode cX11_node 72 = .ok (.invokestatic 124, 3) := by decide +kernel
theorem dX11_node_75 : decode cX11_node 75 = .ok (.ifCond .ne 28, 3) := by decide +kernel
theorem dX11_node_78 : decode cX11_node 78 = .ok (.iload_n 3, 1) := by decide +kernel
theorem dX11_node_79 : decode cX11_node 79 = .ok (.bipush 32, 2) := by decide +kernel
theorem dX11_node_81 : decode cX11_node 81 = .ok (.if_icmp .eq 22, 3) := by decide +kernel
theorem dX11_node_84 : decode cX11_node 84 = .ok (.goto 17, 3) := by decide +kernel
theorem dX11_node_87 : decode cX11_node 87 = .ok (.iload 4, 2) := by decide +kernel
theorem dX11_node_89 : decode cX11_node 89 = .ok (.ifCond .eq 14, 3) := by decide +kernel
theorem dX11_node_92 : decode cX11_node 92 = .ok (.iload_n 3, 1) := by decide +kernel
theorem dX11_node_93 : decode cX11_node 93 = .ok (.iconst 0, 1) := by decide +kernel
theorem dX11_node_94 : decode cX11_node 94 = .ok (.iconst 4, 1) := by decide +kernel
theorem dX11_node_95 : decode cX11_node 95 = .ok (.invokestatic 120, 3) := by decide +kernel
theorem dX11_node_98 : decode cX11_node 98 = .ok (.ifCond .ne 5, 3) := by decide +kernel
theorem dX11_node_101 : decode cX11_node 101 = .ok (.iconst (-1), 1) := by decide +kernel
theorem dX11_node_102 : decode cX11_node 102 = .ok (.ireturn, 1) := by decide +kernel
theorem dX11_node_103 : decode cX11_node 103 = .ok (.aload_n 0, 1) := by decide +kernel
theorem dX11_node_104 : decode cX11_node 104 = .ok (.iload_n 1, 1) := by decide +kernel
theorem dX11_node_105 : decode cX11_node 105 = .ok (.iload_n 2, 1) := by decide +kernel
theorem dX11_node_106 : decode cX11_node 106 = .ok (.iload 4, 2) := by decide +kernel
theorem dX11_node_108 : decode cX11_node 108 = .ok (.ifCond .eq 7, 3) := by decide +kernel
theorem dX11_node_111 : decode cX11_node 111 = .ok (.iload_n 3, 1) := by decide +kernel
theorem dX11_node_112 : decode cX11_node 112 = .ok (.goto 4, 3) := by decide +kernel
theorem dX11_node_115 : decode cX11_node 115 = .ok (.iconst (-1), 1) := by decide +kernel
theorem dX11_node_116 : decode cX11_node 116 = .ok (.invokevirtual 127, 3) := by decide +kernel
theorem dX11_node_119 : decode cX11_node 119 = .ok (.pop, 1) := by decide +kernel
theorem dX11_node_120 : decode cX11_node 120 = .ok (.aload_n 0, 1) := by decide +kernel
theorem dX11_node_121 : decode cX11_node 121 = .ok (.invokevirtual 95, 3) := by decide +kernel
theorem dX11_node_124 : decode cX11_node 124 = .ok (.aload_n 0, 1) := by decide +kernel
theorem dX11_node_125 : decode cX11_node 125 = .ok (.iconst 0, 1) := by decide +kernel
theorem dX11_node_126 : decode cX11_node 126 = .ok (.invokevirtual 131, 3) := by decide +kernel
theorem dX11_node_129 : decode cX11_node 129 = .ok (.aload_n 0, 1) := by decide +kernel
theorem dX11_node_130 : decode cX11_node 130 = .ok (.getfield 22, 3) := by decide +kernel
theorem dX11_node_133 : decode cX11_node 133 = .ok (.iconst 1, 1) := by decide +kernel
theorem dX11_node_134 : decode cX11_node 134 = .ok (.isub, 1) := by decide +kernel
theorem dX11_node_135 : decode cX11_node 135 = .ok (.ireturn, 1) := by decide +kernel
theorem dX11_adds_0 : decode cX11_adds 0 = .ok (.aload_n 0, 1) := by decide +kernel
theorem dX11_adds_1 : decode cX11_adds 1 = .ok (.getfield 9, 3) := by decide +kernel
theorem dX11_adds_4 : decode cX11_adds 4 = .ok (.aload_n 0, 1) := by decide +kernel
theorem dX11_adds_5 : decode cX11_adds 5 = .ok (.getfield 22, 3) := by decide +kernel
theorem dX11_adds_8 : decode cX11_adds 8 = .ok (.iload_n 2, 1) := by decide +kernel
theorem dX11_adds_9 : decode cX11_adds 9 = .ok (.iastore, 1) := by decide +kernel
theorem dX11_adds_10 : decode cX11_adds 10 = .ok (.aload_n 0, 1) := by decide +kernel
theorem dX11_adds_11 : decode cX11_adds 11 = .ok (.getfield 13, 3) := by decide +kernel
theorem dX11_adds_14 : decode cX11_adds 14 = .ok (.aload_n 0, 1) := by decide +kernel
theorem dX11_adds_15 : decode cX11_adds 15 = .ok (.getfield 22, 3) := by decide +kernel
theorem dX11_adds_18 : decode cX11_adds 18 = .ok (.iload_n 3, 1) := by decide +kernel
theorem dX11_adds_19 : decode cX11_adds 19 = .ok (.iastore, 1) := by decide +kernel
theorem dX11_adds_20 : decode cX11_adds 20 = .ok (.aload_n 0, 1) := by decide +kernel
theorem dX11_adds_21 : decode cX11_adds 21 = .ok (.getfield 16, 3) := by decide +kernel
theorem dX11_adds_24 : decode cX11_adds 24 = .ok (.aload_n 0, 1) := by decide +kernel
theorem dX11_adds_25 : decode cX11_adds 25 = .ok (.getfield 22, 3) := by decide +kernel
theorem dX11_adds_28 : decode cX11_adds 28 = .ok (.iload_n 1, 1) := by decide +kernel
theorem dX11_adds_29 : decode cX11_adds 29 = .ok (.iastore, 1) := by decide +kernel
theorem dX11_adds_30 : decode cX11_adds 30 = .ok (.aload_n 0, 1) := by decide +kernel
theorem dX11_adds_31 : decode cX11_adds 31 = .ok (.dup, 1) := by decide +kernel
theorem dX11_adds_32 : decode cX11_adds 32 = .ok (.getfield 22, 3) := by decide +kernel
theorem dX11_adds_35 : decode cX11_adds 35 = .ok (.iconst 1, 1) := by decide +kernel
theorem dX11_adds_36 : decode cX11_adds 36 = .ok (.iadd, 1) := by decide +kernel
theorem dX11_adds_37 : decode cX11_adds 37 = .ok (.putfield 22, 3) := by decide +kernel
theorem dX11_adds_40 : decode cX11_adds 40 = .ok (.aload_n 0, 1) := by decide +kernel
theorem dX11_adds_41 : decode cX11_adds 41 = .ok (.getfield 22, 3) := by decide +kernel
theorem dX11_adds_44 : decode cX11_adds 44 = .ok (.iconst 1, 1) := by decide +kernel
theorem dX11_adds_45 : decode cX11_adds 45 = .ok (.isub, 1) := by decide +kernel
theorem dX11_adds_46 : decode cX11_adds 46 = .ok (.ireturn, 1) := by decide +kernel
theorem dX11_clear_0 : decode cX11_clear 0 = .ok (.aload_n 0, 1) := by decide +kernel
theorem dX11_clear_1 : decode cX11_clear 1 = .ok (.iconst 0, 1) := by decide +kernel
theorem dX11_clear_2 : decode cX11_clear 2 = .ok (.putfield 98, 3) := by decide +kernel
theorem dX11_clear_5 : decode cX11_clear 5 = .ok (.aload_n 0, 1) := by decide +kernel
theorem dX11_clear_6 : decode cX11_clear 6 = .ok (.iconst 1, 1) := by decide +kernel
theorem dX11_clear_7 : decode cX11_clear 7 = .ok (.putfield 22, 3) := by decide +kernel
theorem dX11_clear_10 : decode cX11_clear 10 = .ok (.aload_n 0, 1) := by decide +kernel
theorem dX11_clear_11 : decode cX11_clear 11 = .ok (.invokevirtual 95, 3) := by decide +kernel
theorem dX11_clear_14 : decode cX11_clear 14 = .ok (.aload_n 0, 1) := by decide +kernel
theorem dX11_clear_15 : decode cX11_clear 15 = .ok (.iconst 0, 1) := by decide +kernel
theorem dX11_clear_16 : decode cX11_clear 16 = .ok (.invokevirtual 131, 3) := by decide +kernel
theorem dX11_clear_19 : decode cX11_clear 19 = .ok (.return_, 1) := by decide +kernel
theorem dX11_told_0 : decode cX11_told 0 = .ok (.aload_n 0, 1) := by decide +kernel
theorem dX11_told_1 : decode cX11_told 1 = .ok (.iconst 0, 1) := by decide +kernel
theorem dX11_told_2 : decode cX11_told 2 = .ok (.putfield 98, 3) := by decide +kernel
theorem dX11_told_5 : decode cX11_told 5 = .ok (.aload_n 0, 1) := by decide +kernel
theorem dX11_told_6 : decode cX11_told 6 = .ok (.iload_n 1, 1) := by decide +kernel
theorem dX11_told_7 : decode cX11_told 7 = .ok (.invokevirtual 116, 3) := by decide +kernel
theorem dX11_told_10 : decode cX11_told 10 = .ok (.ifCond .ne 5, 3) := by decide +kernel
theorem dX11_told_13 : decode cX11_told 13 = .ok (.iconst (-1), 1) := by decide +kernel
theorem dX11_told_14 : decode cX11_told 14 = .ok (.ireturn, 1) := by decide +kernel
theorem dX11_told_15 : decode cX11_told 15 = .ok (.iload_n 2, 1) := by decide +kernel
theorem dX11_told_16 : decode cX11_told 16 = .ok (.tableswitch 82 0 4 #[36, 43, 50, 57, 63], 36) := by decide +kernel
theorem dX11_told_52 : decode cX11_told 52 = .ok (.aload_n 0, 1) := by decide +kernel
theorem dX11_told_53 : decode cX11_told 53 = .ok (.getfield 9, 3) := by decide +kernel
theorem dX11_told_56 : decode cX11_told 56 = .ok (.iload_n 1, 1) := by decide +kernel
theorem dX11_told_57 : decode cX11_told 57 = .ok (.iaload, 1) := by decide +kernel
theorem dX11_told_58 : decode cX11_told 58 = .ok (.ireturn, 1) := by decide +kernel
theorem dX11_told_59 : decode cX11_told 59 = .ok (.aload_n 0, 1) := by decide +kernel
theorem dX11_told_60 : decode cX11_told 60 = .ok (.getfield 13, 3) := by decide +kernel
theorem dX11_told_63 : decode cX11_told 63 = .ok (.iload_n 1, 1) := by decide +kernel
theorem dX11_told_64 : decode cX11_told 64 = .ok (.iaload, 1) := by decide +kernel
theorem dX11_told_65 : decode cX11_told 65 = .ok (.ireturn, 1) := by decide +kernel
theorem dX11_told_66 : decode cX11_told 66 = .ok (.aload_n 0, 1) := by decide +kernel
theorem dX11_told_67 : decode cX11_told 67 = .ok (.getfield 16, 3) := by decide +kernel
theorem dX11_told_70 : decode cX11_told 70 = .ok (.iload_n 1, 1) := by decide +kernel
theorem dX11_told_71 : decode cX11_told 71 = .ok (.iaload, 1) := by decide +kernel
theorem dX11_told_72 : decode cX11_told 72 = .ok (.ireturn, 1) := by decide +kernel
theorem dX11_told_73 : decode cX11_told 73 = .ok (.aload_n 0, 1) := by decide +kernel
theorem dX11_told_74 : decode cX11_told 74 = .ok (.iload_n 1, 1) := by decide +kernel
theorem dX11_told_75 : decode cX11_told 75 = .ok (.invokevirtual 135, 3) := by decide +kernel
theorem dX11_told_78 : decode cX11_told 78 = .ok (.ireturn, 1) := by decide +kernel
theorem dX11_told_79 : decode cX11_told 79 = .ok (.aload_n 0, 1) := by decide +kernel
theorem dX11_told_80 : decode cX11_told 80 = .ok (.getfield 9, 3) := by decide +kernel
theorem dX11_told_83 : decode cX11_told 83 = .ok (.iload_n 1, 1) := by decide +kernel
theorem dX11_told_84 : decode cX11_told 84 = .ok (.iaload, 1) := by decide +kernel
theorem dX11_told_85 : decode cX11_told 85 = .ok (.ifCond .ne 11, 3) := by decide +kernel
theorem dX11_told_88 : decode cX11_told 88 = .ok (.aload_n 0, 1) := by decide +kernel
theorem dX11_told_89 : decode cX11_told 89 = .ok (.iload_n 1, 1) := by decide +kernel
theorem dX11_told_90 : decode cX11_told 90 = .ok (.invokevirtual 139, 3) := by decide +kernel
theorem dX11_told_93 : decode cX11_told 93 = .ok (.goto 4, 3) := by decide +kernel
theorem dX11_told_96 : decode cX11_told 96 = .ok (.iconst 0, 1) := by decide +kernel
theorem dX11_told_97 : decode cX11_told 97 = .ok (.ireturn, 1) := by decide +kernel
theorem dX11_told_98 : decode cX11_told 98 = .ok (.iconst (-1), 1) := by decide +kernel
theorem dX11_told_99 : decode cX11_told 99 = .ok (.ireturn, 1) := by decide +kernel
theorem dX11_set_0 : decode cX11_set 0 = .ok (.aload_n 0, 1) := by decide +kernel
theorem dX11_set_1 : decode cX11_set 1 = .ok (.iconst 0, 1) := by decide +kernel
theorem dX11_set_2 : decode cX11_set 2 = .ok (.putfield 98, 3) := by decide +kernel
theorem dX11_set_5 : decode cX11_set 5 = .ok (.iconst 5, 1) := by decide +kernel
theorem dX11_set_6 : decode cX11_set 6 = .ok (.newarray .int, 2) := by decide +kernel
theorem dX11_set_8 : decode cX11_set 8 = .ok (.dup, 1) := by decide +kernel
theorem dX11_set_9 : decode cX11_set 9 = .ok (.iconst 0, 1) := by decide +kernel
theorem dX11_set_10 : decode cX11_set 10 = .ok (.iconst 1, 1) := by decide +kernel
theorem dX11_set_11 : decode cX11_set 11 = .ok (.iastore, 1) := by decide +kernel
theorem dX11_set_12 : decode cX11_set 12 = .ok (.dup, 1) := by decide +kernel
theorem dX11_set_13 : decode cX11_set 13 = .ok (.iconst 1, 1) := by decide +kernel
theorem dX11_set_14 : decode cX11_set 14 = .ok (.iconst 1, 1) := by decide +kernel
theorem dX11_set_15 : decode cX11_set 15 = .ok (.iastore, 1) := by decide +kernel
theorem dX11_set_16 : decode cX11_set 16 = .ok (.dup, 1) := by decide +kernel
theorem dX11_set_17 : decode cX11_set 17 = .ok (.iconst 2, 1) := by decide +kernel
theorem dX11_set_18 : decode cX11_set 18 = .ok (.iconst 0, 1) := by decide +kernel
theorem dX11_set_19 : decode cX11_set 19 = .ok (.iastore, 1) := by decide +kernel
theorem dX11_set_20 : decode cX11_set 20 = .ok (.dup, 1) := by decide +kernel
theorem dX11_set_21 : decode cX11_set 21 = .ok (.iconst 3, 1) := by decide +kernel
theorem dX11_set_22 : decode cX11_set 22 = .ok (.iconst 0, 1) := by decide +kernel
theorem dX11_set_23 : decode cX11_set 23 = .ok (.iastore, 1) := by decide +kernel
theorem dX11_set_24 : decode cX11_set 24 = .ok (.dup, 1) := by decide +kernel
theorem dX11_set_25 : decode cX11_set 25 = .ok (.iconst 4, 1) := by decide +kernel
theorem dX11_set_26 : decode cX11_set 26 = .ok (.iconst 0, 1) := by decide +kernel
theorem dX11_set_27 : decode cX11_set 27 = .ok (.iastore, 1) := by decide +kernel
theorem dX11_set_28 : decode cX11_set 28 = .ok (.astore_n 3, 1) := by decide +kernel
theorem dX11_set_29 : decode cX11_set 29 = .ok (.iconst 5, 1) := by decide +kernel
theorem dX11_set_30 : decode cX11_set 30 = .ok (.newarray .int, 2) := by decide +kernel
theorem dX11_set_32 : decode cX11_set 32 = .ok (.dup, 1) := by decide +kernel
theorem dX11_set_33 : decode cX11_set 33 = .ok (.iconst 0, 1) := by decide +kernel
theorem dX11_set_34 : decode cX11_set 34 = .ok (.bipush 50, 2) := by decide +kernel
theorem dX11_set_36 : decode cX11_set 36 = .ok (.iastore, 1) := by decide +kernel
theorem dX11_set_37 : decode cX11_set 37 = .ok (.dup, 1) := by decide +kernel
theorem dX11_set_38 : decode cX11_set 38 = .ok (.iconst 1, 1) := by decide +kernel
theorem dX11_set_39 : decode cX11_set 39 = .ok (.bipush 9, 2) := by decide +kernel
theorem dX11_set_41 : decode cX11_set 41 = .ok (.iastore, 1) := by decide +kernel
theorem dX11_set_42 : decode cX11_set 42 = .ok (.dup, 1) := by decide +kernel
theorem dX11_set_43 : decode cX11_set 43 = .ok (.iconst 2, 1) := by decide +kernel
theorem dX11_set_44 : decode cX11_set 44 = .ok (.bipush 20, 2) := by decide +kernel
theorem dX11_set_46 : decode cX11_set 46 = .ok (.iastore, 1) := by decide +kernel
theorem dX11_set_47 : decode cX11_set 47 = .ok (.dup, 1) := by decide +kernel
theorem dX11_set_48 : decode cX11_set 48 = .ok (.iconst 3, 1) := by decide +kernel
theorem dX11_set_49 : decode cX11_set 49 = .ok (.bipush 20, 2) := by decide +kernel
theorem dX11_set_51 : decode cX11_set 51 = .ok (.iastore, 1) := by decide +kernel
theorem dX11_set_52 : decode cX11_set 52 = .ok (.dup, 1) := by decide +kernel
theorem dX11_set_53 : decode cX11_set 53 = .ok (.iconst 4, 1) := by decide +kernel
theorem dX11_set_54 : decode cX11_set 54 = .ok (.bipush 50, 2) := by decide +kernel
theorem dX11_set_56 : decode cX11_set 56 = .ok (.iastore, 1) := by decide +kernel
theorem dX11_set_57 : decode cX11_set 57 = .ok (.astore 4, 2) := by decide +kernel
theorem dX11_set_59 : decode cX11_set 59 = .ok (.iload_n 1, 1) := by decide +kernel
theorem dX11_set_60 : decode cX11_set 60 = .ok (.iconst 0, 1) := by decide +kernel
theorem dX11_set_61 : decode cX11_set 61 = .ok (.iconst 4, 1) := by decide +kernel
theorem dX11_set_62 : decode cX11_set 62 = .ok (.invokestatic 120, 3) := by decide +kernel
theorem dX11_set_65 : decode cX11_set 65 = .ok (.ifCond .eq 17, 3) := by decide +kernel
theorem dX11_set_68 : decode cX11_set 68 = .ok (.iload_n 2, 1) := by decide +kernel
theorem dX11_set_69 : decode cX11_set 69 = .ok (.aload_n 3, 1) := by decide +kernel
theorem dX11_set_70 : decode cX11_set 70 = .ok (.iload_n 1, 1) := by decide +kernel
theorem dX11_set_71 : decode cX11_set 71 = .ok (.iaload, 1) := by decide +kernel
theorem dX11_set_72 : decode cX11_set 72 = .ok (.aload 4, 2) := by decide +kernel
theorem dX11_set_74 : decode cX11_set 74 = .ok (.iload_n 1, 1) := by decide +kernel
theorem dX11_set_75 : decode cX11_set 75 = .ok (.iaload, 1) := by decide +kernel
theorem dX11_set_76 : decode cX11_set 76 = .ok (.invokestatic 120, 3) := by decide +kernel
theorem dX11_set_79 : decode cX11_set 79 = .ok (.ifCond .ne 5, 3) := by decide +kernel
theorem dX11_set_82 : decode cX11_set 82 = .ok (.iconst 0, 1) := by decide +kernel
theorem dX11_set_83 : decode cX11_set 83 = .ok (.ireturn, 1) := by decide +kernel
theorem dX11_set_84 : decode cX11_set 84 = .ok (.aload_n 0, 1) := by decide +kernel
theorem dX11_set_85 : decode cX11_set 85 = .ok (.getfield 19, 3) := by decide +kernel
theorem dX11_set_88 : decode cX11_set 88 = .ok (.iload_n 1, 1) := by decide +kernel
theorem dX11_set_89 : decode cX11_set 89 = .ok (.iload_n 2, 1) := by decide +kernel
theorem dX11_set_90 : decode cX11_set 90 = .ok (.iastore, 1) := by decide +kernel
theorem dX11_set_91 : decode cX11_set 91 = .ok (.iconst 1, 1) := by decide +kernel
theorem dX11_set_92 : decode cX11_set 92 = .ok (.ireturn, 1) := by decide +kernel
theorem dX11_tick_0 : decode cX11_tick 0 = .ok (.aload_n 0, 1) := by decide +kernel
theorem dX11_tick_1 : decode cX11_tick 1 = .ok (.iconst 0, 1) := by decide +kernel
theorem dX11_tick_2 : decode cX11_tick 2 = .ok (.putfield 98, 3) := by decide +kernel
theorem dX11_tick_5 : decode cX11_tick 5 = .ok (.iload_n 1, 1) := by decide +kernel
theorem dX11_tick_6 : decode cX11_tick 6 = .ok (.iconst 0, 1) := by decide +kernel
theorem dX11_tick_7 : decode cX11_tick 7 = .ok (.sipush 1000, 3) := by decide +kernel
theorem dX11_tick_10 : decode cX11_tick 10 = .ok (.invokestatic 120, 3) := by decide +kernel
theorem dX11_tick_13 : decode cX11_tick 13 = .ok (.ifCond .eq 14, 3) := by decide +kernel
theorem dX11_tick_16 : decode cX11_tick 16 = .ok (.aload_n 0, 1) := by decide +kernel
theorem dX11_tick_17 : decode cX11_tick 17 = .ok (.getfield 107, 3) := by decide +kernel
theorem dX11_tick_20 : decode cX11_tick 20 = .ok (.iload_n 1, 1) := by decide +kernel
theorem dX11_tick_21 : decode cX11_tick 21 = .ok (.iadd, 1) := by decide +kernel
theorem dX11_tick_22 : decode cX11_tick 22 = .ok (.ldc 142, 2) := by decide +kernel
theorem dX11_tick_24 : decode cX11_tick 24 = .ok (.if_icmp .le 6, 3) := by decide +kernel
theorem dX11_tick_27 : decode cX11_tick 27 = .ok (.bipush (-2), 2) := by decide +kernel
theorem dX11_tick_29 : decode cX11_tick 29 = .ok (.ireturn, 1) := by decide +kernel
theorem dX11_tick_30 : decode cX11_tick 30 = .ok (.iconst 0, 1) := by decide +kernel
theorem dX11_tick_31 : decode cX11_tick 31 = .ok (.istore_n 2, 1) := by decide +kernel
theorem dX11_tick_32 : decode cX11_tick 32 = .ok (.iload_n 2, 1) := by decide +kernel
theorem dX11_tick_33 : decode cX11_tick 33 = .ok (.iload_n 1, 1) := by decide +kernel
theorem dX11_tick_34 : decode cX11_tick 34 = .ok (.if_icmp .ge 13, 3) := by decide +kernel
theorem dX11_tick_37 : decode cX11_tick 37 = .ok (.aload_n 0, 1) := by decide +kernel
theorem dX11_tick_38 : decode cX11_tick 38 = .ok (.invokevirtual 143, 3) := by decide +kernel
theorem dX11_tick_41 : decode cX11_tick 41 = .ok (.iinc 2 1, 3) := by decide +kernel
theorem dX11_tick_44 : decode cX11_tick 44 = .ok (.goto (-12), 3) := by decide +kernel
theorem dX11_tick_47 : decode cX11_tick 47 = .ok (.aload_n 0, 1) := by decide +kernel
theorem dX11_tick_48 : decode cX11_tick 48 = .ok (.aload_n 0, 1) := by decide +kernel
theorem dX11_tick_49 : decode cX11_tick 49 = .ok (.getfield 101, 3) := by decide +kernel
theorem dX11_tick_52 : decode cX11_tick 52 = .ok (.aload_n 0, 1) := by decide +kernel
theorem dX11_tick_53 : decode cX11_tick 53 = .ok (.getfield 104, 3) := by decide +kernel
theorem dX11_tick_56 : decode cX11_tick 56 = .ok (.invokevirtual 146, 3) := by decide +kernel
theorem dX11_tick_59 : decode cX11_tick 59 = .ok (.ireturn, 1) := by decide +kernel
theorem dX11_ticks_0 : decode cX11_ticks 0 = .ok (.aload_n 0, 1) := by decide +kernel
theorem dX11_ticks_1 : decode cX11_ticks 1 = .ok (.dup, 1) := by decide +kernel
theorem dX11_ticks_2 : decode cX11_ticks 2 = .ok (.getfield 107, 3) := by decide +kernel
theorem dX11_ticks_5 : decode cX11_ticks 5 = .ok (.iconst 1, 1) := by decide +kernel
theorem dX11_ticks_6 : decode cX11_ticks 6 = .ok (.iadd, 1) := by decide +kernel
theorem dX11_ticks_7 : decode cX11_ticks 7 = .ok (.putfield 107, 3) := by decide +kernel
theorem dX11_ticks_10 : decode cX11_ticks 10 = .ok (.aload_n 0, 1) := by decide +kernel
theorem dX11_ticks_11 : decode cX11_ticks 11 = .ok (.aload_n 0, 1) := by decide +kernel
theorem dX11_ticks_12 : decode cX11_ticks 12 = .ok (.getfield 101, 3) := by decide +kernel
theorem dX11_ticks_15 : decode cX11_ticks 15 = .ok (.invokevirtual 139, 3) := by decide +kernel
theorem dX11_ticks_18 : decode cX11_ticks 18 = .ok (.istore_n 1, 1) := by decide +kernel
theorem dX11_ticks_19 : decode cX11_ticks 19 = .ok (.iload_n 1, 1) := by decide +kernel
theorem dX11_ticks_20 : decode cX11_ticks 20 = .ok (.ifCond .eq 21, 3) := by decide +kernel
theorem dX11_ticks_23 : decode cX11_ticks 23 = .ok (.aload_n 0, 1) := by decide +kernel
theorem dX11_ticks_24 : decode cX11_ticks 24 = .ok (.getfield 107, 3) := by decide +kernel
theorem dX11_ticks_27 : decode cX11_ticks 27 = .ok (.aload_n 0, 1) := by decide +kernel
theorem dX11_ticks_28 : decode cX11_ticks 28 = .ok (.getfield 110, 3) := by decide +kernel
theorem dX11_ticks_31 : decode cX11_ticks 31 = .ok (.isub, 1) := by decide +kernel
theorem dX11_ticks_32 : decode cX11_ticks 32 = .ok (.aload_n 0, 1) := by decide +kernel
theorem dX11_ticks_33 : decode cX11_ticks 33 = .ok (.getfield 19, 3) := by decide +kernel
theorem dX11_ticks_36 : decode cX11_ticks 36 = .ok (.iconst 0, 1) := by decide +kernel
theorem dX11_ticks_37 : decode cX11_ticks 37 = .ok (.iaload, 1) := by decide +kernel
theorem dX11_ticks_38 : decode cX11_ticks 38 = .ok (.if_icmp .ge 4, 3) := by decide +kernel
theorem dX11_ticks_41 : decode cX11_ticks 41 = .ok (.return_, 1) := by decide +kernel
theorem dX11_ticks_42 : decode cX11_ticks 42 = .ok (.aload_n 0, 1) := by decide +kernel
theorem dX11_ticks_43 : decode cX11_ticks 43 = .ok (.aload_n 0, 1) := by decide +kernel
theorem dX11_ticks_44 : decode cX11_ticks 44 = .ok (.aload_n 0, 1) := by decide +kernel
theorem dX11_ticks_45 : decode cX11_ticks 45 = .ok (.getfield 101, 3) := by decide +kernel
theorem dX11_ticks_48 : decode cX11_ticks 48 = .ok (.aload_n 0, 1) := by decide +kernel
theorem dX11_ticks_49 : decode cX11_ticks 49 = .ok (.getfield 104, 3) := by decide +kernel
theorem dX11_ticks_52 : decode cX11_ticks 52 = .ok (.invokevirtual 146, 3) := by decide +kernel
theorem dX11_ticks_55 : decode cX11_ticks 55 = .ok (.putfield 39, 3) := by decide +kernel
theorem dX11_ticks_58 : decode cX11_ticks 58 = .ok (.aload_n 0, 1) := by decide +kernel
theorem dX11_ticks_59 : decode cX11_ticks 59 = .ok (.aload_n 0, 1) := by decide +kernel
theorem dX11_ticks_60 : decode cX11_ticks 60 = .ok (.getfield 107, 3) := by decide +kernel
theorem dX11_ticks_63 : decode cX11_ticks 63 = .ok (.putfield 110, 3) := by decide +kernel
theorem dX11_ticks_66 : decode cX11_ticks 66 = .ok (.aload_n 0, 1) := by decide +kernel
theorem dX11_ticks_67 : decode cX11_ticks 67 = .ok (.dup, 1) := by decide +kernel
theorem dX11_ticks_68 : decode cX11_ticks 68 = .ok (.getfield 104, 3) := by decide +kernel
theorem dX11_ticks_71 : decode cX11_ticks 71 = .ok (.iconst 1, 1) := by decide +kernel
theorem dX11_ticks_72 : decode cX11_ticks 72 = .ok (.iadd, 1) := by decide +kernel
theorem dX11_ticks_73 : decode cX11_ticks 73 = .ok (.putfield 104, 3) := by decide +kernel
theorem dX11_ticks_76 : decode cX11_ticks 76 = .ok (.aload_n 0, 1) := by decide +kernel
theorem dX11_ticks_77 : decode cX11_ticks 77 = .ok (.getfield 104, 3) := by decide +kernel
theorem dX11_ticks_80 : decode cX11_ticks 80 = .ok (.iload_n 1, 1) := by decide +kernel
theorem dX11_ticks_81 : decode cX11_ticks 81 = .ok (.if_icmp .ge 4, 3) := by decide +kernel
theorem dX11_ticks_84 : decode cX11_ticks 84 = .ok (.return_, 1) := by decide +kernel
theorem dX11_ticks_85 : decode cX11_ticks 85 = .ok (.aload_n 0, 1) := by decide +kernel
theorem dX11_ticks_86 : decode cX11_ticks 86 = .ok (.iconst 0, 1) := by decide +kernel
theorem dX11_ticks_87 : decode cX11_ticks 87 = .ok (.putfield 104, 3) := by decide +kernel
theorem dX11_ticks_90 : decode cX11_ticks 90 = .ok (.aload_n 0, 1) := by decide +kernel
theorem dX11_ticks_91 : decode cX11_ticks 91 = .ok (.dup, 1) := by decide +kernel
theorem dX11_ticks_92 : decode cX11_ticks 92 = .ok (.getfield 113, 3) := by decide +kernel
theorem dX11_ticks_95 : decode cX11_ticks 95 = .ok (.iconst 1, 1) := by decide +kernel
theorem dX11_ticks_96 : decode cX11_ticks 96 = .ok (.iadd, 1) := by decide +kernel
theorem dX11_ticks_97 : decode cX11_ticks 97 = .ok (.putfield 113, 3) := by decide +kernel
theorem dX11_ticks_100 : decode cX11_ticks 100 = .ok (.aload_n 0, 1) := by decide +kernel
theorem dX11_ticks_101 : decode cX11_ticks 101 = .ok (.getfield 101, 3) := by decide +kernel
theorem dX11_ticks_104 : decode cX11_ticks 104 = .ok (.ifCond .eq 21, 3) := by decide +kernel
theorem dX11_ticks_107 : decode cX11_ticks 107 = .ok (.aload_n 0, 1) := by decide +kernel
theorem dX11_ticks_108 : decode cX11_ticks 108 = .ok (.getfield 113, 3) := by decide +kernel
theorem dX11_ticks_111 : decode cX11_ticks 111 = .ok (.aload_n 0, 1) := by decide +kernel
theorem dX11_ticks_112 : decode cX11_ticks 112 = .ok (.getfield 19, 3) := by decide +kernel
theorem dX11_ticks_115 : decode cX11_ticks 115 = .ok (.iconst 1, 1) := by decide +kernel
theorem dX11_ticks_116 : decode cX11_ticks 116 = .ok (.iaload, 1) := by decide +kernel
theorem dX11_ticks_117 : decode cX11_ticks 117 = .ok (.if_icmp .lt 8, 3) := by decide +kernel
theorem dX11_ticks_120 : decode cX11_ticks 120 = .ok (.aload_n 0, 1) := by decide +kernel
theorem dX11_ticks_121 : decode cX11_ticks 121 = .ok (.iconst 0, 1) := by decide +kernel
theorem dX11_ticks_122 : decode cX11_ticks 122 = .ok (.invokevirtual 131, 3) := by decide +kernel
theorem dX11_ticks_125 : decode cX11_ticks 125 = .ok (.return_, 1) := by decide +kernel
theorem dX11_press_0 : decode cX11_press 0 = .ok (.aload_n 0, 1) := by decide +kernel
theorem dX11_press_1 : decode cX11_press 1 = .ok (.iconst 0, 1) := by decide +kernel
theorem dX11_press_2 : decode cX11_press 2 = .ok (.putfield 98, 3) := by decide +kernel
theorem dX11_press_5 : decode cX11_press 5 = .ok (.aload_n 0, 1) := by decide +kernel
theorem dX11_press_6 : decode cX11_press 6 = .ok (.aload_n 0, 1) := by decide +kernel
theorem dX11_press_7 : decode cX11_press 7 = .ok (.getfield 101, 3) := by decide +kernel
theorem dX11_press_10 : decode cX11_press 10 = .ok (.aload_n 0, 1) := by decide +kernel
theorem dX11_press_11 : decode cX11_press 11 = .ok (.getfield 104, 3) := by decide +kernel
theorem dX11_press_14 : decode cX11_press 14 = .ok (.invokevirtual 146, 3) := by decide +kernel
theorem dX11_press_17 : decode cX11_press 17 = .ok (.istore_n 1, 1) := by decide +kernel
theorem dX11_press_18 : decode cX11_press 18 = .ok (.iload_n 1, 1) := by decide +kernel
theorem dX11_press_19 : decode cX11_press 19 = .ok (.iconst (-1), 1) := by decide +kernel
theorem dX11_press_20 : decode cX11_press 20 = .ok (.if_icmp .eq 29, 3) := by decide +kernel
theorem dX11_press_23 : decode cX11_press 23 = .ok (.aload_n 0, 1) := by decide +kernel
theorem dX11_press_24 : decode cX11_press 24 = .ok (.getfield 42, 3) := by decide +kernel
theorem dX11_press_27 : decode cX11_press 27 = .ok (.iconst (-1), 1) := by decide +kernel
theorem dX11_press_28 : decode cX11_press 28 = .ok (.if_icmp .eq 23, 3) := by decide +kernel
theorem dX11_press_31 : decode cX11_press 31 = .ok (.aload_n 0, 1) := by decide +kernel
theorem dX11_press_32 : decode cX11_press 32 = .ok (.getfield 107, 3) := by decide +kernel
theorem dX11_press_35 : decode cX11_press 35 = .ok (.aload_n 0, 1) := by decide +kernel
theorem dX11_press_36 : decode cX11_press 36 = .ok (.getfield 42, 3) := by decide +kernel
theorem dX11_press_39 : decode cX11_press 39 = .ok (.isub, 1) := by decide +kernel
theorem dX11_press_40 : decode cX11_press 40 = .ok (.aload_n 0, 1) := by decide +kernel
theorem dX11_press_41 : decode cX11_press 41 = .ok (.getfield 19, 3) := by decide +kernel
theorem dX11_press_44 : decode cX11_press 44 = .ok (.iconst 3, 1) := by decide +kernel
theorem dX11_press_45 : decode cX11_press 45 = .ok (.iaload, 1) := by decide +kernel
theorem dX11_press_46 : decode cX11_press 46 = .ok (.if_icmp .ge 5, 3) := by decide +kernel
theorem dX11_press_49 : decode cX11_press 49 = .ok (.iconst (-1), 1) := by decide +kernel
theorem dX11_press_50 : decode cX11_press 50 = .ok (.ireturn, 1) := by decide +kernel
theorem dX11_press_51 : decode cX11_press 51 = .ok (.aload_n 0, 1) := by decide +kernel
theorem dX11_press_52 : decode cX11_press 52 = .ok (.aload_n 0, 1) := by decide +kernel
theorem dX11_press_53 : decode cX11_press 53 = .ok (.getfield 107, 3) := by decide +kernel
theorem dX11_press_56 : decode cX11_press 56 = .ok (.putfield 42, 3) := by decide +kernel
theorem dX11_press_59 : decode cX11_press 59 = .ok (.aload_n 0, 1) := by decide +kernel
theorem dX11_press_60 : decode cX11_press 60 = .ok (.dup, 1) := by decide +kernel
theorem dX11_press_61 : decode cX11_press 61 = .ok (.getfield 150, 3) := by decide +kernel
theorem dX11_press_64 : decode cX11_press 64 = .ok (.iconst 1, 1) := by decide +kernel
theorem dX11_press_65 : decode cX11_press 65 = .ok (.iadd, 1) := by decide +kernel
theorem dX11_press_66 : decode cX11_press 66 = .ok (.putfield 150, 3) := by decide +kernel
theorem dX11_press_69 : decode cX11_press 69 = .ok (.aload_n 0, 1) := by decide +kernel
theorem dX11_press_70 : decode cX11_press 70 = .ok (.getfield 107, 3) := by decide +kernel
theorem dX11_press_73 : decode cX11_press 73 = .ok (.aload_n 0, 1) := by decide +kernel
theorem dX11_press_74 : decode cX11_press 74 = .ok (.getfield 110, 3) := by decide +kernel
theorem dX11_press_77 : decode cX11_press 77 = .ok (.isub, 1) := by decide +kernel
theorem dX11_press_78 : decode cX11_press 78 = .ok (.aload_n 0, 1) := by decide +kernel
theorem dX11_press_79 : decode cX11_press 79 = .ok (.getfield 19, 3) := by decide +kernel
theorem dX11_press_82 : decode cX11_press 82 = .ok (.iconst 2, 1) := by decide +kernel
theorem dX11_press_83 : decode cX11_press 83 = .ok (.iaload, 1) := by decide +kernel
theorem dX11_press_84 : decode cX11_press 84 = .ok (.if_icmp .ge 18, 3) := by decide +kernel
theorem dX11_press_87 : decode cX11_press 87 = .ok (.aload_n 0, 1) := by decide +kernel
theorem dX11_press_88 : decode cX11_press 88 = .ok (.getfield 39, 3) := by decide +kernel
theorem dX11_press_91 : decode cX11_press 91 = .ok (.iconst (-1), 1) := by decide +kernel
theorem dX11_press_92 : decode cX11_press 92 = .ok (.if_icmp .eq 10, 3) := by decide +kernel
theorem dX11_press_95 : decode cX11_press 95 = .ok (.aload_n 0, 1) := by decide +kernel
theorem dX11_press_96 : decode cX11_press 96 = .ok (.getfield 39, 3) := by decide +kernel
theorem dX11_press_99 : decode cX11_press 99 = .ok (.goto 4, 3) := by decide +kernel
theorem dX11_press_102 : decode cX11_press 102 = .ok (.iload_n 1, 1) := by decide +kernel
theorem dX11_press_103 : decode cX11_press 103 = .ok (.istore_n 2, 1) := by decide +kernel
theorem dX11_press_104 : decode cX11_press 104 = .ok (.aload_n 0, 1) := by decide +kernel
theorem dX11_press_105 : decode cX11_press 105 = .ok (.getfield 9, 3) := by decide +kernel
theorem dX11_press_108 : decode cX11_press 108 = .ok (.iload_n 2, 1) := by decide +kernel
theorem dX11_press_109 : decode cX11_press 109 = .ok (.iaload, 1) := by decide +kernel
theorem dX11_press_110 : decode cX11_press 110 = .ok (.ifCond .ne 11, 3) := by decide +kernel
theorem dX11_press_113 : decode cX11_press 113 = .ok (.aload_n 0, 1) := by decide +kernel
theorem dX11_press_114 : decode cX11_press 114 = .ok (.iload_n 2, 1) := by decide +kernel
theorem dX11_press_115 : decode cX11_press 115 = .ok (.invokevirtual 131, 3) := by decide +kernel
theorem dX11_press_118 : decode cX11_press 118 = .ok (.goto 13, 3) := by decide +kernel
theorem dX11_press_121 : decode cX11_press 121 = .ok (.aload_n 0, 1) := by decide +kernel
theorem dX11_press_122 : decode cX11_press 122 = .ok (.iload_n 2, 1) := by decide +kernel
theorem dX11_press_123 : decode cX11_press 123 = .ok (.invokevirtual 153, 3) := by decide +kernel
theorem dX11_press_126 : decode cX11_press 126 = .ok (.aload_n 0, 1) := by decide +kernel
theorem dX11_press_127 : decode cX11_press 127 = .ok (.iconst 0, 1) := by decide +kernel
theorem dX11_press_128 : decode cX11_press 128 = .ok (.invokevirtual 131, 3) := by decide +kernel
theorem dX11_press_131 : decode cX11_press 131 = .ok (.iload_n 2, 1) := by decide +kernel
theorem dX11_press_132 : decode cX11_press 132 = .ok (.ireturn, 1) := by decide +kernel
theorem dX11_state_0 : decode cX11_state 0 = .ok (.aload_n 0, 1) := by decide +kernel
theorem dX11_state_1 : decode cX11_state 1 = .ok (.iconst 0, 1) := by decide +kernel
theorem dX11_state_2 : decode cX11_state 2 = .ok (.putfield 98, 3) := by decide +kernel
theorem dX11_state_5 : decode cX11_state 5 = .ok (.iload_n 1, 1) := by decide +kernel
theorem dX11_state_6 : decode cX11_state 6 = .ok (.tableswitch 94 0 7 #[46, 51, 56, 69, 74, 79, 84, 89], 46) := by decide +kernel
theorem dX11_state_52 : decode cX11_state 52 = .ok (.aload_n 0, 1) := by decide +kernel
theorem dX11_state_53 : decode cX11_state 53 = .ok (.getfield 107, 3) := by decide +kernel
theorem dX11_state_56 : decode cX11_state 56 = .ok (.ireturn, 1) := by decide +kernel
theorem dX11_state_57 : decode cX11_state 57 = .ok (.aload_n 0, 1) := by decide +kernel
theorem dX11_state_58 : decode cX11_state 58 = .ok (.getfield 101, 3) := by decide +kernel
theorem dX11_state_61 : decode cX11_state 61 = .ok (.ireturn, 1) := by decide +kernel
theorem dX11_state_62 : decode cX11_state 62 = .ok (.aload_n 0, 1) := by decide +kernel
theorem dX11_state_63 : decode cX11_state 63 = .ok (.aload_n 0, 1) := by decide +kernel
theorem dX11_state_64 : decode cX11_state 64 = .ok (.getfield 101, 3) := by decide +kernel
theorem dX11_state_67 : decode cX11_state 67 = .ok (.aload_n 0, 1) := by decide +kernel
theorem dX11_state_68 : decode cX11_state 68 = .ok (.getfield 104, 3) := by decide +kernel
theorem dX11_state_71 : decode cX11_state 71 = .ok (.invokevirtual 146, 3) := by decide +kernel
theorem dX11_state_74 : decode cX11_state 74 = .ok (.ireturn, 1) := by decide +kernel
theorem dX11_state_75 : decode cX11_state 75 = .ok (.aload_n 0, 1) := by decide +kernel
theorem dX11_state_76 : decode cX11_state 76 = .ok (.getfield 39, 3) := by decide +kernel
theorem dX11_state_79 : decode cX11_state 79 = .ok (.ireturn, 1) := by decide +kernel
theorem dX11_state_80 : decode cX11_state 80 = .ok (.aload_n 0, 1) := by decide +kernel
theorem dX11_state_81 : decode cX11_state 81 = .ok (.getfield 110, 3) := by decide +kernel
theorem dX11_state_84 : decode cX11_state 84 = .ok (.ireturn, 1) := by decide +kernel
theorem dX11_state_85 : decode cX11_state 85 = .ok (.aload_n 0, 1) := by decide +kernel
theorem dX11_state_86 : decode cX11_state 86 = .ok (.getfield 113, 3) := by decide +kernel
theorem dX11_state_89 : decode cX11_state 89 = .ok (.ireturn, 1) := by decide +kernel
theorem dX11_state_90 : decode cX11_state 90 = .ok (.aload_n 0, 1) := by decide +kernel
theorem dX11_state_91 : decode cX11_state 91 = .ok (.getfield 150, 3) := by decide +kernel
theorem dX11_state_94 : decode cX11_state 94 = .ok (.ireturn, 1) := by decide +kernel
theorem dX11_state_95 : decode cX11_state 95 = .ok (.aload_n 0, 1) := by decide +kernel
theorem dX11_state_96 : decode cX11_state 96 = .ok (.getfield 156, 3) := by decide +kernel
theorem dX11_state_99 : decode cX11_state 99 = .ok (.ireturn, 1) := by decide +kernel
theorem dX11_state_100 : decode cX11_state 100 = .ok (.iconst (-1), 1) := by decide +kernel
theorem dX11_state_101 : decode cX11_state 101 = .ok (.ireturn, 1) := by decide +kernel
theorem dX11_keep_0 : decode cX11_keep 0 = .ok (.aload_n 0, 1) := by decide +kernel
theorem dX11_keep_1 : decode cX11_keep 1 = .ok (.getfield 156, 3) := by decide +kernel
theorem dX11_keep_4 : decode cX11_keep 4 = .ok (.bipush 100, 2) := by decide +kernel
theorem dX11_keep_6 : decode cX11_keep 6 = .ok (.if_icmp .ne 104, 3) := by decide +kernel
theorem dX11_keep_9 : decode cX11_keep 9 = .ok (.sipush 200, 3) := by decide +kernel
theorem dX11_keep_12 : decode cX11_keep 12 = .ok (.istore_n 1, 1) := by decide +kernel
theorem dX11_keep_13 : decode cX11_keep 13 = .ok (.iload_n 1, 1) := by decide +kernel
theorem dX11_keep_14 : decode cX11_keep 14 = .ok (.sipush 20000, 3) := by decide +kernel
theorem dX11_keep_17 : decode cX11_keep 17 = .ok (.if_icmp .ge 41, 3) := by decide +kernel
theorem dX11_keep_20 : decode cX11_keep 20 = .ok (.aload_n 0, 1) := by decide +kernel
theorem dX11_keep_21 : decode cX11_keep 21 = .ok (.getfield 52, 3) := by decide +kernel
theorem dX11_keep_24 : decode cX11_keep 24 = .ok (.iload_n 1, 1) := by decide +kernel
theorem dX11_keep_25 : decode cX11_keep 25 = .ok (.sipush 200, 3) := by decide +kernel
theorem dX11_keep_28 : decode cX11_keep 28 = .ok (.isub, 1) := by decide +kernel
theorem dX11_keep_29 : decode cX11_keep 29 = .ok (.aload_n 0, 1) := by decide +kernel
theorem dX11_keep_30 : decode cX11_keep 30 = .ok (.getfield 52, 3) := by decide +kernel
theorem dX11_keep_33 : decode cX11_keep 33 = .ok (.iload_n 1, 1) := by decide +kernel
theorem dX11_keep_34 : decode cX11_keep 34 = .ok (.baload, 1) := by decide +kernel
theorem dX11_keep_35 : decode cX11_keep 35 = .ok (.bastore, 1) := by decide +kernel
theorem dX11_keep_36 : decode cX11_keep 36 = .ok (.aload_n 0, 1) := by decide +kernel
theorem dX11_keep_37 : decode cX11_keep 37 = .ok (.getfield 55, 3) := by decide +kernel
theorem dX11_keep_40 : decode cX11_keep 40 = .ok (.iload_n 1, 1) := by decide +kernel
theorem dX11_keep_41 : decode cX11_keep 41 = .ok (.sipush 200, 3) := by decide +kernel
theorem dX11_keep_44 : decode cX11_keep 44 = .ok (.isub, 1) := by decide +kernel
theorem dX11_keep_45 : decode cX11_keep 45 = .ok (.aload_n 0, 1) := by decide +kernel
theorem dX11_keep_46 : decode cX11_keep 46 = .ok (.getfield 55, 3) := by decide +kernel
theorem dX11_keep_49 : decode cX11_keep 49 = .ok (.iload_n 1, 1) := by decide +kernel
theorem dX11_keep_50 : decode cX11_keep 50 = .ok (.baload, 1) := by decide +kernel
theorem dX11_keep_51 : decode cX11_keep 51 = .ok (.bastore, 1) := by decide +kernel
theorem dX11_keep_52 : decode cX11_keep 52 = .ok (.iinc 1 1, 3) := by decide +kernel
theorem dX11_keep_55 : decode cX11_keep 55 = .ok (.goto (-42), 3) := by decide +kernel
theorem dX11_keep_58 : decode cX11_keep 58 = .ok (.iconst 1, 1) := by decide +kernel
theorem dX11_keep_59 : decode cX11_keep 59 = .ok (.istore_n 1, 1) := by decide +kernel
theorem dX11_keep_60 : decode cX11_keep 60 = .ok (.iload_n 1, 1) := by decide +kernel
theorem dX11_keep_61 : decode cX11_keep 61 = .ok (.bipush 100, 2) := by decide +kernel
theorem dX11_keep_63 : decode cX11_keep 63 = .ok (.if_icmp .ge 37, 3) := by decide +kernel
theorem dX11_keep_66 : decode cX11_keep 66 = .ok (.aload_n 0, 1) := by decide +kernel
theorem dX11_keep_67 : decode cX11_keep 67 = .ok (.getfield 58, 3) := by decide +kernel
theorem dX11_keep_70 : decode cX11_keep 70 = .ok (.iload_n 1, 1) := by decide +kernel
theorem dX11_keep_71 : decode cX11_keep 71 = .ok (.iconst 1, 1) := by decide +kernel
theorem dX11_keep_72 : decode cX11_keep 72 = .ok (.isub, 1) := by decide +kernel
theorem dX11_keep_73 : decode cX11_keep 73 = .ok (.aload_n 0, 1) := by decide +kernel
theorem dX11_keep_74 : decode cX11_keep 74 = .ok (.getfield 58, 3) := by decide +kernel
theorem dX11_keep_77 : decode cX11_keep 77 = .ok (.iload_n 1, 1) := by decide +kernel
theorem dX11_keep_78 : decode cX11_keep 78 = .ok (.iaload, 1) := by decide +kernel
theorem dX11_keep_79 : decode cX11_keep 79 = .ok (.iastore, 1) := by decide +kernel
theorem dX11_keep_80 : decode cX11_keep 80 = .ok (.aload_n 0, 1) := by decide +kernel
theorem dX11_keep_81 : decode cX11_keep 81 = .ok (.getfield 61, 3) := by decide +kernel
theorem dX11_keep_84 : decode cX11_keep 84 = .ok (.iload_n 1, 1) := by decide +kernel
theorem dX11_keep_85 : decode cX11_keep 85 = .ok (.iconst 1, 1) := by decide +kernel
theorem dX11_keep_86 : decode cX11_keep 86 = .ok (.isub, 1) := by decide +kernel
theorem dX11_keep_87 : decode cX11_keep 87 = .ok (.aload_n 0, 1) := by decide +kernel
theorem dX11_keep_88 : decode cX11_keep 88 = .ok (.getfield 61, 3) := by decide +kernel
theorem dX11_keep_91 : decode cX11_keep 91 = .ok (.iload_n 1, 1) := by decide +kernel
theorem dX11_keep_92 : decode cX11_keep 92 = .ok (.iaload, 1) := by decide +kernel
theorem dX11_keep_93 : decode cX11_keep 93 = .ok (.iastore, 1) := by decide +kernel
theorem dX11_keep_94 : decode cX11_keep 94 = .ok (.iinc 1 1, 3) := by decide +kernel
theorem dX11_keep_97 : decode cX11_keep 97 = .ok (.goto (-37), 3) := by decide +kernel
theorem dX11_keep_100 : decode cX11_keep 100 = .ok (.aload_n 0, 1) := by decide +kernel
theorem dX11_keep_101 : decode cX11_keep 101 = .ok (.dup, 1) := by decide +kernel
theorem dX11_keep_102 : decode cX11_keep 102 = .ok (.getfield 156, 3) := by decide +kernel
theorem dX11_keep_105 : decode cX11_keep 105 = .ok (.iconst 1, 1) := by decide +kernel
theorem dX11_keep_106 : decode cX11_keep 106 = .ok (.isub, 1) := by decide +kernel
theorem dX11_keep_107 : decode cX11_keep 107 = .ok (.putfield 156, 3) := by decide +kernel
theorem dX11_keep_110 : decode cX11_keep 110 = .ok (.iconst 0, 1) := by decide +kernel
theorem dX11_keep_111 : decode cX11_keep 111 = .ok (.istore_n 1, 1) := by decide +kernel
theorem dX11_keep_112 : decode cX11_keep 112 = .ok (.iload_n 1, 1) := by decide +kernel
theorem dX11_keep_113 : decode cX11_keep 113 = .ok (.sipush 200, 3) := by decide +kernel
theorem dX11_keep_116 : decode cX11_keep 116 = .ok (.if_icmp .ge 51, 3) := by decide +kernel
theorem dX11_keep_119 : decode cX11_keep 119 = .ok (.aload_n 0, 1) := by decide +kernel
theorem dX11_keep_120 : decode cX11_keep 120 = .ok (.getfield 52, 3) := by decide +kernel
theorem dX11_keep_123 : decode cX11_keep 123 = .ok (.sipush 200, 3) := by decide +kernel
theorem dX11_keep_126 : decode cX11_keep 126 = .ok (.aload_n 0, 1) := by decide +kernel
theorem dX11_keep_127 : decode cX11_keep 127 = .ok (.getfield 156, 3) := by decide +kernel
theorem dX11_keep_130 : decode cX11_keep 130 = .ok (.imul, 1) := by decide +kernel
theorem dX11_keep_131 : decode cX11_keep 131 = .ok (.iload_n 1, 1) := by decide +kernel
theorem dX11_keep_132 : decode cX11_keep 132 = .ok (.iadd, 1) := by decide +kernel
theorem dX11_keep_133 : decode cX11_keep 133 = .ok (.aload_n 0, 1) := by decide +kernel
theorem dX11_keep_134 : decode cX11_keep 134 = .ok (.getfield 45, 3) := by decide +kernel
theorem dX11_keep_137 : decode cX11_keep 137 = .ok (.iload_n 1, 1) := by decide +kernel
theorem dX11_keep_138 : decode cX11_keep 138 = .ok (.baload, 1) := by decide +kernel
theorem dX11_keep_139 : decode cX11_keep 139 = .ok (.bastore, 1) := by decide +kernel
theorem dX11_keep_140 : decode cX11_keep 140 = .ok (.aload_n 0, 1) := by decide +kernel
theorem dX11_keep_141 : decode cX11_keep 141 = .ok (.getfield 55, 3) := by decide +kernel
theorem dX11_keep_144 : decode cX11_keep 144 = .ok (.sipush 200, 3) := by decide +kernel
theorem dX11_keep_147 : decode cX11_keep 147 = .ok (.aload_n 0, 1) := by decide +kernel
theorem dX11_keep_148 : decode cX11_keep 148 = .ok (.getfield 156, 3) := by decide +kernel
theorem dX11_keep_151 : decode cX11_keep 151 = .ok (.imul, 1) := by decide +kernel
theorem dX11_keep_152 : decode cX11_keep 152 = .ok (.iload_n 1, 1) := by decide +kernel
theorem dX11_keep_153 : decode cX11_keep 153 = .ok (.iadd, 1) := by decide +kernel
theorem dX11_keep_154 : decode cX11_keep 154 = .ok (.aload_n 0, 1) := by decide +kernel
theorem dX11_keep_155 : decode cX11_keep 155 = .ok (.getfield 49, 3) := by decide +kernel
theorem dX11_keep_158 : decode cX11_keep 158 = .ok (.iload_n 1, 1) := by decide +kernel
theorem dX11_keep_159 : decode cX11_keep 159 = .ok (.baload, 1) := by decide +kernel
theorem dX11_keep_160 : decode cX11_keep 160 = .ok (.bastore, 1) := by decide +kernel
theorem dX11_keep_161 : decode cX11_keep 161 = .ok (.iinc 1 1, 3) := by decide +kernel
theorem dX11_keep_164 : decode cX11_keep 164 = .ok (.goto (-52), 3) := by decide +kernel
theorem dX11_keep_167 : decode cX11_keep 167 = .ok (.aload_n 0, 1) := by decide +kernel
theorem dX11_keep_168 : decode cX11_keep 168 = .ok (.getfield 58, 3) := by decide +kernel
theorem dX11_keep_171 : decode cX11_keep 171 = .ok (.aload_n 0, 1) := by decide +kernel
theorem dX11_keep_172 : decode cX11_keep 172 = .ok (.getfield 156, 3) := by decide +kernel
theorem dX11_keep_175 : decode cX11_keep 175 = .ok (.aload_n 0, 1) := by decide +kernel
theorem dX11_keep_176 : decode cX11_keep 176 = .ok (.getfield 159, 3) := by decide +kernel
theorem dX11_keep_179 : decode cX11_keep 179 = .ok (.iastore, 1) := by decide +kernel
theorem dX11_keep_180 : decode cX11_keep 180 = .ok (.aload_n 0, 1) := by decide +kernel
theorem dX11_keep_181 : decode cX11_keep 181 = .ok (.getfield 61, 3) := by decide +kernel
theorem dX11_keep_184 : decode cX11_keep 184 = .ok (.aload_n 0, 1) := by decide +kernel
theorem dX11_keep_185 : decode cX11_keep 185 = .ok (.getfield 156, 3) := by decide +kernel
theorem dX11_keep_188 : decode cX11_keep 188 = .ok (.aload_n 0, 1) := by decide +kernel
theorem dX11_keep_189 : decode cX11_keep 189 = .ok (.getfield 64, 3) := by decide +kernel
theorem dX11_keep_192 : decode cX11_keep 192 = .ok (.iastore, 1) := by decide +kernel
theorem dX11_keep_193 : decode cX11_keep 193 = .ok (.aload_n 0, 1) := by decide +kernel
theorem dX11_keep_194 : decode cX11_keep 194 = .ok (.dup, 1) := by decide +kernel
theorem dX11_keep_195 : decode cX11_keep 195 = .ok (.getfield 156, 3) := by decide +kernel
theorem dX11_keep_198 : decode cX11_keep 198 = .ok (.iconst 1, 1) := by decide +kernel
theorem dX11_keep_199 : decode cX11_keep 199 = .ok (.iadd, 1) := by decide +kernel
theorem dX11_keep_200 : decode cX11_keep 200 = .ok (.putfield 156, 3) := by decide +kernel
theorem dX11_keep_203 : decode cX11_keep 203 = .ok (.return_, 1) := by decide +kernel
theorem dX11_undo_0 : decode cX11_undo 0 = .ok (.aload_n 0, 1) := by decide +kernel
theorem dX11_undo_1 : decode cX11_undo 1 = .ok (.getfield 156, 3) := by decide +kernel
theorem dX11_undo_4 : decode cX11_undo 4 = .ok (.ifCond .ne 4, 3) := by decide +kernel
theorem dX11_undo_7 : decode cX11_undo 7 = .ok (.return_, 1) := by decide +kernel
theorem dX11_undo_8 : decode cX11_undo 8 = .ok (.aload_n 0, 1) := by decide +kernel
theorem dX11_undo_9 : decode cX11_undo 9 = .ok (.dup, 1) := by decide +kernel
theorem dX11_undo_10 : decode cX11_undo 10 = .ok (.getfield 156, 3) := by decide +kernel
theorem dX11_undo_13 : decode cX11_undo 13 = .ok (.iconst 1, 1) := by decide +kernel
theorem dX11_undo_14 : decode cX11_undo 14 = .ok (.isub, 1) := by decide +kernel
theorem dX11_undo_15 : decode cX11_undo 15 = .ok (.putfield 156, 3) := by decide +kernel
theorem dX11_undo_18 : decode cX11_undo 18 = .ok (.iconst 0, 1) := by decide +kernel
theorem dX11_undo_19 : decode cX11_undo 19 = .ok (.istore_n 1, 1) := by decide +kernel
theorem dX11_undo_20 : decode cX11_undo 20 = .ok (.iload_n 1, 1) := by decide +kernel
theorem dX11_undo_21 : decode cX11_undo 21 = .ok (.sipush 200, 3) := by decide +kernel
theorem dX11_undo_24 : decode cX11_undo 24 = .ok (.if_icmp .ge 51, 3) := by decide +kernel
theorem dX11_undo_27 : decode cX11_undo 27 = .ok (.aload_n 0, 1) := by decide +kernel
theorem dX11_undo_28 : decode cX11_undo 28 = .ok (.getfield 45, 3) := by decide +kernel
theorem dX11_undo_31 : decode cX11_undo 31 = .ok (.iload_n 1, 1) := by decide +kernel
theorem dX11_undo_32 : decode cX11_undo 32 = .ok (.aload_n 0, 1) := by decide +kernel
theorem dX11_undo_33 : decode cX11_undo 33 = .ok (.getfield 52, 3) := by decide +kernel
theorem dX11_undo_36 : decode cX11_undo 36 = .ok (.sipush 200, 3) := by decide +kernel
theorem dX11_undo_39 : decode cX11_undo 39 = .ok (.aload_n 0, 1) := by decide +kernel
theorem dX11_undo_40 : decode cX11_undo 40 = .ok (.getfield 156, 3) := by decide +kernel
theorem dX11_undo_43 : decode cX11_undo 43 = .ok (.imul, 1) := by decide +kernel
theorem dX11_undo_44 : decode cX11_undo 44 = .ok (.iload_n 1, 1) := by decide +kernel
theorem dX11_undo_45 : decode cX11_undo 45 = .ok (.iadd, 1) := by decide +kernel
theorem dX11_undo_46 : decode cX11_undo 46 = .ok (.baload, 1) := by decide +kernel
theorem dX11_undo_47 : decode cX11_undo 47 = .ok (.bastore, 1) := by decide +kernel
theorem dX11_undo_48 : decode cX11_undo 48 = .ok (.aload_n 0, 1) := by decide +kernel
theorem dX11_undo_49 : decode cX11_undo 49 = .ok (.getfield 49, 3) := by decide +kernel
theorem dX11_undo_52 : decode cX11_undo 52 = .ok (.iload_n 1, 1) := by decide +kernel
theorem dX11_undo_53 : decode cX11_undo 53 = .ok (.aload_n 0, 1) := by decide +kernel
theorem dX11_undo_54 : decode cX11_undo 54 = .ok (.getfield 55, 3) := by decide +kernel
theorem dX11_undo_57 : decode cX11_undo 57 = .ok (.sipush 200, 3) := by decide +kernel
theorem dX11_undo_60 : decode cX11_undo 60 = .ok (.aload_n 0, 1) := by decide +kernel
theorem dX11_undo_61 : decode cX11_undo 61 = .ok (.getfield 156, 3) := by decide +kernel
theorem dX11_undo_64 : decode cX11_undo 64 = .ok (.imul, 1) := by decide +kernel
theorem dX11_undo_65 : decode cX11_undo 65 = .ok (.iload_n 1, 1) := by decide +kernel
theorem dX11_undo_66 : decode cX11_undo 66 = .ok (.iadd, 1) := by decide +kernel
theorem dX11_undo_67 : decode cX11_undo 67 = .ok (.baload, 1) := by decide +kernel
theorem dX11_undo_68 : decode cX11_undo 68 = .ok (.bastore, 1) := by decide +kernel
theorem dX11_undo_69 : decode cX11_undo 69 = .ok (.iinc 1 1, 3) := by decide +kernel
theorem dX11_undo_72 : decode cX11_undo 72 = .ok (.goto (-52), 3) := by decide +kernel
theorem dX11_undo_75 : decode cX11_undo 75 = .ok (.aload_n 0, 1) := by decide +kernel
theorem dX11_undo_76 : decode cX11_undo 76 = .ok (.aload_n 0, 1) := by decide +kernel
theorem dX11_undo_77 : decode cX11_undo 77 = .ok (.getfield 58, 3) := by decide +kernel
theorem dX11_undo_80 : decode cX11_undo 80 = .ok (.aload_n 0, 1) := by decide +kernel
theorem dX11_undo_81 : decode cX11_undo 81 = .ok (.getfield 156, 3) := by decide +kernel
theorem dX11_undo_84 : decode cX11_undo 84 = .ok (.iaload, 1) := by decide +kernel
theorem dX11_undo_85 : decode cX11_undo 85 = .ok (.putfield 159, 3) := by decide +kernel
theorem dX11_undo_88 : decode cX11_undo 88 = .ok (.aload_n 0, 1) := by decide +kernel
theorem dX11_undo_89 : decode cX11_undo 89 = .ok (.aload_n 0, 1) := by decide +kernel
theorem dX11_undo_90 : decode cX11_undo 90 = .ok (.getfield 61, 3) := by decide +kernel
theorem dX11_undo_93 : decode cX11_undo 93 = .ok (.aload_n 0, 1) := by decide +kernel
theorem dX11_undo_94 : decode cX11_undo 94 = .ok (.getfield 156, 3) := by decide +kernel
theorem dX11_undo_97 : decode cX11_undo 97 = .ok (.iaload, 1) := by decide +kernel
theorem dX11_undo_98 : decode cX11_undo 98 = .ok (.putfield 64, 3) := by decide +kernel
theorem dX11_undo_101 : decode cX11_undo 101 = .ok (.return_, 1) := by decide +kernel
theorem dX11_put_0 : decode cX11_put 0 = .ok (.aload_n 0, 1) := by decide +kernel
theorem dX11_put_1 : decode cX11_put 1 = .ok (.getfield 45, 3) := by decide +kernel
theorem dX11_put_4 : decode cX11_put 4 = .ok (.aload_n 0, 1) := by decide +kernel
theorem dX11_put_5 : decode cX11_put 5 = .ok (.getfield 159, 3) := by decide +kernel
theorem dX11_put_8 : decode cX11_put 8 = .ok (.iload_n 1, 1) := by decide +kernel
theorem dX11_put_9 : decode cX11_put 9 = .ok (.i2b, 1) := by decide +kernel
theorem dX11_put_10 : decode cX11_put 10 = .ok (.bastore, 1) := by decide +kernel
theorem dX11_put_11 : decode cX11_put 11 = .ok (.aload_n 0, 1) := by decide +kernel
theorem dX11_put_12 : decode cX11_put 12 = .ok (.dup, 1) := by decide +kernel
theorem dX11_put_13 : decode cX11_put 13 = .ok (.getfield 159, 3) := by decide +kernel
theorem dX11_put_16 : decode cX11_put 16 = .ok (.iconst 1, 1) := by decide +kernel
theorem dX11_put_17 : decode cX11_put 17 = .ok (.iadd, 1) := by decide +kernel
theorem dX11_put_18 : decode cX11_put 18 = .ok (.putfield 159, 3) := by decide +kernel
theorem dX11_put_21 : decode cX11_put 21 = .ok (.return_, 1) := by decide +kernel
theorem dX11_acts_0 : decode cX11_acts 0 = .ok (.aload_n 0, 1) := by decide +kernel
theorem dX11_acts_1 : decode cX11_acts 1 = .ok (.getfield 9, 3) := by decide +kernel
theorem dX11_acts_4 : decode cX11_acts 4 = .ok (.iload_n 1, 1) := by decide +kernel
theorem dX11_acts_5 : decode cX11_acts 5 = .ok (.iaload, 1) := by decide +kernel
theorem dX11_acts_6 : decode cX11_acts 6 = .ok (.tableswitch 239 1 5 #[34, 60, 83, 149, 88], 34) := by decide +kernel
theorem dX11_acts_40 : decode cX11_acts 40 = .ok (.aload_n 0, 1) := by decide +kernel
theorem dX11_acts_41 : decode cX11_acts 41 = .ok (.getfield 159, 3) := by decide +kernel
theorem dX11_acts_44 : decode cX11_acts 44 = .ok (.sipush 200, 3) := by decide +kernel
theorem dX11_acts_47 : decode cX11_acts 47 = .ok (.if_icmp .ne 4, 3) := by decide +kernel
theorem dX11_acts_50 : decode cX11_acts 50 = .ok (.return_, 1) := by decide +kernel
theorem dX11_acts_51 : decode cX11_acts 51 = .ok (.aload_n 0, 1) := by decide +kernel
theorem dX11_acts_52 : decode cX11_acts 52 = .ok (.invokevirtual 162, 3) := by decide +kernel
theorem dX11_acts_55 : decode cX11_acts 55 = .ok (.aload_n 0, 1) := by decide +kernel
theorem dX11_acts_56 : decode cX11_acts 56 = .ok (.aload_n 0, 1) := by decide +kernel
theorem dX11_acts_57 : decode cX11_acts 57 = .ok (.getfield 13, 3) := by decide +kernel
theorem dX11_acts_60 : decode cX11_acts 60 = .ok (.iload_n 1, 1) := by decide +kernel
theorem dX11_acts_61 : decode cX11_acts 61 = .ok (.iaload, 1) := by decide +kernel
theorem dX11_acts_62 : decode cX11_acts 62 = .ok (.invokevirtual 165, 3) := by decide +kernel
theorem dX11_acts_65 : decode cX11_acts 65 = .ok (.return_, 1) := by decide +kernel
theorem dX11_acts_66 : decode cX11_acts 66 = .ok (.aload_n 0, 1) := by decide +kernel
theorem dX11_acts_67 : decode cX11_acts 67 = .ok (.getfield 159, 3) := by decide +kernel
theorem dX11_acts_70 : decode cX11_acts 70 = .ok (.ifCond .ne 4, 3) := by decide +kernel
theorem dX11_acts_73 : decode cX11_acts 73 = .ok (.return_, 1) := by decide +kernel
theorem dX11_acts_74 : decode cX11_acts 74 = .ok (.aload_n 0, 1) := by decide +kernel
theorem dX11_acts_75 : decode cX11_acts 75 = .ok (.invokevirtual 162, 3) := by decide +kernel
theorem dX11_acts_78 : decode cX11_acts 78 = .ok (.aload_n 0, 1) := by decide +kernel
theorem dX11_acts_79 : decode cX11_acts 79 = .ok (.dup, 1) := by decide +kernel
theorem dX11_acts_80 : decode cX11_acts 80 = .ok (.getfield 159, 3) := by decide +kernel
theorem dX11_acts_83 : decode cX11_acts 83 = .ok (.iconst 1, 1) := by decide +kernel
theorem dX11_acts_84 : decode cX11_acts 84 = .ok (.isub, 1) := by decide +kernel
theorem dX11_acts_85 : decode cX11_acts 85 = .ok (.putfield 159, 3) := by decide +kernel
theorem dX11_acts_88 : decode cX11_acts 88 = .ok (.return_, 1) := by decide +kernel
theorem dX11_acts_89 : decode cX11_acts 89 = .ok (.aload_n 0, 1) := by decide +kernel
theorem dX11_acts_90 : decode cX11_acts 90 = .ok (.invokevirtual 168, 3) := by decide +kernel
theorem dX11_acts_93 : decode cX11_acts 93 = .ok (.return_, 1) := by decide +kernel
theorem dX11_acts_94 : decode cX11_acts 94 = .ok (.aload_n 0, 1) := by decide +kernel
theorem dX11_acts_95 : decode cX11_acts 95 = .ok (.getfield 159, 3) := by decide +kernel
theorem dX11_acts_98 : decode cX11_acts 98 = .ok (.ifCond .ne 11, 3) := by decide +kernel
theorem dX11_acts_101 : decode cX11_acts 101 = .ok (.aload_n 0, 1) := by decide +kernel
theorem dX11_acts_102 : decode cX11_acts 102 = .ok (.getfield 64, 3) := by decide +kernel
theorem dX11_acts_105 : decode cX11_acts 105 = .ok (.ifCond .ne 4, 3) := by decide +kernel
theorem dX11_acts_108 : decode cX11_acts 108 = .ok (.return_, 1) := by decide +kernel
theorem dX11_acts_109 : decode cX11_acts 109 = .ok (.aload_n 0, 1) := by decide +kernel
theorem dX11_acts_110 : decode cX11_acts 110 = .ok (.invokevirtual 162, 3) := by decide +kernel
theorem dX11_acts_113 : decode cX11_acts 113 = .ok (.iconst 0, 1) := by decide +kernel
theorem dX11_acts_114 : decode cX11_acts 114 = .ok (.istore_n 2, 1) := by decide +kernel
theorem dX11_acts_115 : decode cX11_acts 115 = .ok (.iload_n 2, 1) := by decide +kernel
theorem dX11_acts_116 : decode cX11_acts 116 = .ok (.aload_n 0, 1) := by decide +kernel
theorem dX11_acts_117 : decode cX11_acts 117 = .ok (.getfield 159, 3) := by decide +kernel
theorem dX11_acts_120 : decode cX11_acts 120 = .ok (.if_icmp .ge 21, 3) := by decide +kernel
theorem dX11_acts_123 : decode cX11_acts 123 = .ok (.aload_n 0, 1) := by decide +kernel
theorem dX11_acts_124 : decode cX11_acts 124 = .ok (.getfield 49, 3) := by decide +kernel
theorem dX11_acts_127 : decode cX11_acts 127 = .ok (.iload_n 2, 1) := by decide +kernel
theorem dX11_acts_128 : decode cX11_acts 128 = .ok (.aload_n 0, 1) := by decide +kernel
theorem dX11_acts_129 : decode cX11_acts 129 = .ok (.getfield 45, 3) := by decide +kernel
theorem dX11_acts_132 : decode cX11_acts 132 = .ok (.iload_n 2, 1) := by decide +kernel
theorem dX11_acts_133 : decode cX11_acts 133 = .ok (.baload, 1) := by decide +kernel
theorem dX11_acts_134 : decode cX11_acts 134 = .ok (.bastore, 1) := by decide +kernel
theorem dX11_acts_135 : decode cX11_acts 135 = .ok (.iinc 2 1, 3) := by decide +kernel
theorem dX11_acts_138 : decode cX11_acts 138 = .ok (.goto (-23), 3) := by decide +kernel
theorem dX11_acts_141 : decode cX11_acts 141 = .ok (.aload_n 0, 1) := by decide +kernel
theorem dX11_acts_142 : decode cX11_acts 142 = .ok (.aload_n 0, 1) := by decide +kernel
theorem dX11_acts_143 : decode cX11_acts 143 = .ok (.getfield 159, 3) := by decide +kernel
theorem dX11_acts_146 : decode cX11_acts 146 = .ok (.putfield 64, 3) := by decide +kernel
theorem dX11_acts_149 : decode cX11_acts 149 = .ok (.aload_n 0, 1) := by decide +kernel
theorem dX11_acts_150 : decode cX11_acts 150 = .ok (.iconst 0, 1) := by decide +kernel
theorem dX11_acts_151 : decode cX11_acts 151 = .ok (.putfield 159, 3) := by decide +kernel
theorem dX11_acts_154 : decode cX11_acts 154 = .ok (.return_, 1) := by decide +kernel
theorem dX11_acts_155 : decode cX11_acts 155 = .ok (.aload_n 0, 1) := by decide +kernel
theorem dX11_acts_156 : decode cX11_acts 156 = .ok (.aload_n 0, 1) := by decide +kernel
theorem dX11_acts_157 : decode cX11_acts 157 = .ok (.getfield 13, 3) := by decide +kernel
theorem dX11_acts_160 : decode cX11_acts 160 = .ok (.iload_n 1, 1) := by decide +kernel
theorem dX11_acts_161 : decode cX11_acts 161 = .ok (.iaload, 1) := by decide +kernel
theorem dX11_acts_162 : decode cX11_acts 162 = .ok (.invokevirtual 171, 3) := by decide +kernel
theorem dX11_acts_165 : decode cX11_acts 165 = .ok (.istore_n 2, 1) := by decide +kernel
theorem dX11_acts_166 : decode cX11_acts 166 = .ok (.aload_n 0, 1) := by decide +kernel
theorem dX11_acts_167 : decode cX11_acts 167 = .ok (.invokevirtual 174, 3) := by decide +kernel
theorem dX11_acts_170 : decode cX11_acts 170 = .ok (.istore_n 3, 1) := by decide +kernel
theorem dX11_acts_171 : decode cX11_acts 171 = .ok (.iload_n 2, 1) := by decide +kernel
theorem dX11_acts_172 : decode cX11_acts 172 = .ok (.iconst (-1), 1) := by decide +kernel
theorem dX11_acts_173 : decode cX11_acts 173 = .ok (.if_icmp .eq 24, 3) := by decide +kernel
theorem dX11_acts_176 : decode cX11_acts 176 = .ok (.aload_n 0, 1) := by decide +kernel
theorem dX11_acts_177 : decode cX11_acts 177 = .ok (.getfield 159, 3) := by decide +kernel
theorem dX11_acts_180 : decode cX11_acts 180 = .ok (.aload_n 0, 1) := by decide +kernel
theorem dX11_acts_181 : decode cX11_acts 181 = .ok (.getfield 73, 3) := by decide +kernel
theorem dX11_acts_184 : decode cX11_acts 184 = .ok (.iload_n 2, 1) := by decide +kernel
theorem dX11_acts_185 : decode cX11_acts 185 = .ok (.iaload, 1) := by decide +kernel
theorem dX11_acts_186 : decode cX11_acts 186 = .ok (.iadd, 1) := by decide +kernel
theorem dX11_acts_187 : decode cX11_acts 187 = .ok (.iload_n 3, 1) := by decide +kernel
theorem dX11_acts_188 : decode cX11_acts 188 = .ok (.isub, 1) := by decide +kernel
theorem dX11_acts_189 : decode cX11_acts 189 = .ok (.iconst 1, 1) := by decide +kernel
theorem dX11_acts_190 : decode cX11_acts 190 = .ok (.iadd, 1) := by decide +kernel
theorem dX11_acts_191 : decode cX11_acts 191 = .ok (.sipush 200, 3) := by decide +kernel
theorem dX11_acts_194 : decode cX11_acts 194 = .ok (.if_icmp .le 4, 3) := by decide +kernel
theorem dX11_acts_197 : decode cX11_acts 197 = .ok (.return_, 1) := by decide +kernel
theorem dX11_acts_198 : decode cX11_acts 198 = .ok (.aload_n 0, 1) := by decide +kernel
theorem dX11_acts_199 : decode cX11_acts 199 = .ok (.invokevirtual 162, 3) := by decide +kernel
theorem dX11_acts_202 : decode cX11_acts 202 = .ok (.iload_n 3, 1) := by decide +kernel
theorem dX11_acts_203 : decode cX11_acts 203 = .ok (.istore 4, 2) := by decide +kernel
theorem dX11_acts_205 : decode cX11_acts 205 = .ok (.iload 4, 2) := by decide +kernel
theorem dX11_acts_207 : decode cX11_acts 207 = .ok (.aload_n 0, 1) := by decide +kernel
theorem dX11_acts_208 : decode cX11_acts 208 = .ok (.getfield 73, 3) := by decide +kernel
theorem dX11_acts_211 : decode cX11_acts 211 = .ok (.iload_n 2, 1) := by decide +kernel
theorem dX11_acts_212 : decode cX11_acts 212 = .ok (.iaload, 1) := by decide +kernel
theorem dX11_acts_213 : decode cX11_acts 213 = .ok (.if_icmp .ge 25, 3) := by decide +kernel
theorem dX11_acts_216 : decode cX11_acts 216 = .ok (.aload_n 0, 1) := by decide +kernel
theorem dX11_acts_217 : decode cX11_acts 217 = .ok (.aload_n 0, 1) := by decide +kernel
theorem dX11_acts_218 : decode cX11_acts 218 = .ok (.getfield 70, 3) := by decide +kernel
theorem dX11_acts_221 : decode cX11_acts 221 = .ok (.bipush 12, 2) := by decide +kernel
theorem dX11_acts_223 : decode cX11_acts 223 = .ok (.iload_n 2, 1) := by decide +kernel
theorem dX11_acts_224 : decode cX11_acts 224 = .ok (.imul, 1) := by decide +kernel
theorem dX11_acts_225 : decode cX11_acts 225 = .ok (.iload 4, 2) := by decide +kernel
theorem dX11_acts_227 : decode cX11_acts 227 = .ok (.iadd, 1) := by decide +kernel
theorem dX11_acts_228 : decode cX11_acts 228 = .ok (.baload, 1) := by decide +kernel
theorem dX11_acts_229 : decode cX11_acts 229 = .ok (.invokevirtual 165, 3) := by decide +kernel
theorem dX11_acts_232 : decode cX11_acts 232 = .ok (.iinc 4 1, 3) := by decide +kernel
theorem dX11_acts_235 : decode cX11_acts 235 = .ok (.goto (-30), 3) := by decide +kernel
theorem dX11_acts_238 : decode cX11_acts 238 = .ok (.aload_n 0, 1) := by decide +kernel
theorem dX11_acts_239 : decode cX11_acts 239 = .ok (.bipush 32, 2) := by decide +kernel
theorem dX11_acts_241 : decode cX11_acts 241 = .ok (.invokevirtual 165, 3) := by decide +kernel
theorem dX11_acts_244 : decode cX11_acts 244 = .ok (.return_, 1) := by decide +kernel
theorem dX11_acts_245 : decode cX11_acts 245 = .ok (.aload_n 0, 1) := by decide +kernel
theorem dX11_acts_246 : decode cX11_acts 246 = .ok (.aload_n 0, 1) := by decide +kernel
theorem dX11_acts_247 : decode cX11_acts 247 = .ok (.getfield 13, 3) := by decide +kernel
theorem dX11_acts_250 : decode cX11_acts 250 = .ok (.iload_n 1, 1) := by decide +kernel
theorem dX11_acts_251 : decode cX11_acts 251 = .ok (.iaload, 1) := by decide +kernel
theorem dX11_acts_252 : decode cX11_acts 252 = .ok (.invokevirtual 178, 3) := by decide +kernel
theorem dX11_acts_255 : decode cX11_acts 255 = .ok (.istore_n 2, 1) := by decide +kernel
theorem dX11_acts_256 : decode cX11_acts 256 = .ok (.iload_n 2, 1) := by decide +kernel
theorem dX11_acts_257 : decode cX11_acts 257 = .ok (.iconst (-1), 1) := by decide +kernel
theorem dX11_acts_258 : decode cX11_acts 258 = .ok (.if_icmp .ne 4, 3) := by decide +kernel
theorem dX11_acts_261 : decode cX11_acts 261 = .ok (.return_, 1) := by decide +kernel
theorem dX11_acts_262 : decode cX11_acts 262 = .ok (.aload_n 0, 1) := by decide +kernel
theorem dX11_acts_263 : decode cX11_acts 263 = .ok (.invokevirtual 162, 3) := by decide +kernel
theorem dX11_acts_266 : decode cX11_acts 266 = .ok (.aload_n 0, 1) := by decide +kernel
theorem dX11_acts_267 : decode cX11_acts 267 = .ok (.dup, 1) := by decide +kernel
theorem dX11_acts_268 : decode cX11_acts 268 = .ok (.getfield 159, 3) := by decide +kernel
theorem dX11_acts_271 : decode cX11_acts 271 = .ok (.aload_n 0, 1) := by decide +kernel
theorem dX11_acts_272 : decode cX11_acts 272 = .ok (.invokevirtual 174, 3) := by decide +kernel
theorem dX11_acts_275 : decode cX11_acts 275 = .ok (.isub, 1) := by decide +kernel
theorem dX11_acts_276 : decode cX11_acts 276 = .ok (.putfield 159, 3) := by decide +kernel
theorem dX11_acts_279 : decode cX11_acts 279 = .ok (.iconst 0, 1) := by decide +kernel
theorem dX11_acts_280 : decode cX11_acts 280 = .ok (.istore_n 3, 1) := by decide +kernel
theorem dX11_acts_281 : decode cX11_acts 281 = .ok (.iload_n 3, 1) := by decide +kernel
theorem dX11_acts_282 : decode cX11_acts 282 = .ok (.aload_n 0, 1) := by decide +kernel
theorem dX11_acts_283 : decode cX11_acts 283 = .ok (.getfield 73, 3) := by decide +kernel
theorem dX11_acts_286 : decode cX11_acts 286 = .ok (.iload_n 2, 1) := by decide +kernel
theorem dX11_acts_287 : decode cX11_acts 287 = .ok (.iaload, 1) := by decide +kernel
theorem dX11_acts_288 : decode cX11_acts 288 = .ok (.if_icmp .ge 24, 3) := by decide +kernel
theorem dX11_acts_291 : decode cX11_acts 291 = .ok (.aload_n 0, 1) := by decide +kernel
theorem dX11_acts_292 : decode cX11_acts 292 = .ok (.aload_n 0, 1) := by decide +kernel
theorem dX11_acts_293 : decode cX11_acts 293 = .ok (.getfield 70, 3) := by decide +kernel
theorem dX11_acts_296 : decode cX11_acts 296 = .ok (.bipush 12, 2) := by decide +kernel
theorem dX11_acts_298 : decode cX11_acts 298 = .ok (.iload_n 2, 1) := by decide +kernel
theorem dX11_acts_299 : decode cX11_acts 299 = .ok (.imul, 1) := by decide +kernel
theorem dX11_acts_300 : decode cX11_acts 300 = .ok (.iload_n 3, 1) := by decide +kernel
theorem dX11_acts_301 : decode cX11_acts 301 = .ok (.iadd, 1) := by decide +kernel
theorem dX11_acts_302 : decode cX11_acts 302 = .ok (.baload, 1) := by decide +kernel
theorem dX11_acts_303 : decode cX11_acts 303 = .ok (.invokevirtual 165, 3) := by decide +kernel
theorem dX11_acts_306 : decode cX11_acts 306 = .ok (.iinc 3 1, 3) := by decide +kernel
theorem dX11_acts_309 : decode cX11_acts 309 = .ok (.goto (-28), 3) := by decide +kernel
theorem dX11_acts_312 : decode cX11_acts 312 = .ok (.return_, 1) := by decide +kernel
theorem dX11_length_0 : decode cX11_length 0 = .ok (.aload_n 0, 1) := by decide +kernel
theorem dX11_length_1 : decode cX11_length 1 = .ok (.iconst 0, 1) := by decide +kernel
theorem dX11_length_2 : decode cX11_length 2 = .ok (.putfield 98, 3) := by decide +kernel
theorem dX11_length_5 : decode cX11_length 5 = .ok (.iload_n 1, 1) := by decide +kernel
theorem dX11_length_6 : decode cX11_length 6 = .ok (.ifCond .ne 10, 3) := by decide +kernel
theorem dX11_length_9 : decode cX11_length 9 = .ok (.aload_n 0, 1) := by decide +kernel
theorem dX11_length_10 : decode cX11_length 10 = .ok (.getfield 159, 3) := by decide +kernel
theorem dX11_length_13 : decode cX11_length 13 = .ok (.goto 16, 3) := by decide +kernel
theorem dX11_length_16 : decode cX11_length 16 = .ok (.iload_n 1, 1) := by decide +kernel
theorem dX11_length_17 : decode cX11_length 17 = .ok (.iconst 1, 1) := by decide +kernel
theorem dX11_length_18 : decode cX11_length 18 = .ok (.if_icmp .ne 10, 3) := by decide +kernel
theorem dX11_length_21 : decode cX11_length 21 = .ok (.aload_n 0, 1) := by decide +kernel
theorem dX11_length_22 : decode cX11_length 22 = .ok (.getfield 64, 3) := by decide +kernel
theorem dX11_length_25 : decode cX11_length 25 = .ok (.goto 4, 3) := by decide +kernel
theorem dX11_length_28 : decode cX11_length 28 = .ok (.iconst (-1), 1) := by decide +kernel
theorem dX11_length_29 : decode cX11_length 29 = .ok (.ireturn, 1) := by decide +kernel
theorem dX11_at_0 : decode cX11_at 0 = .ok (.aload_n 0, 1) := by decide +kernel
theorem dX11_at_1 : decode cX11_at 1 = .ok (.iload_n 1, 1) := by decide +kernel
theorem dX11_at_2 : decode cX11_at 2 = .ok (.iconst 0, 1) := by decide +kernel
theorem dX11_at_3 : decode cX11_at 3 = .ok (.iconst 1, 1) := by decide +kernel
theorem dX11_at_4 : decode cX11_at 4 = .ok (.invokestatic 120, 3) := by decide +kernel
theorem dX11_at_7 : decode cX11_at 7 = .ok (.ifCond .eq 26, 3) := by decide +kernel
theorem dX11_at_10 : decode cX11_at 10 = .ok (.iload_n 2, 1) := by decide +kernel
theorem dX11_at_11 : decode cX11_at 11 = .ok (.ifCond .lt 22, 3) := by decide +kernel
theorem dX11_at_14 : decode cX11_at 14 = .ok (.iload_n 2, 1) := by decide +kernel
theorem dX11_at_15 : decode cX11_at 15 = .ok (.iload_n 1, 1) := by decide +kernel
theorem dX11_at_16 : decode cX11_at 16 = .ok (.ifCond .ne 10, 3) := by decide +kernel
theorem dX11_at_19 : decode cX11_at 19 = .ok (.aload_n 0, 1) := by decide +kernel
theorem dX11_at_20 : decode cX11_at 20 = .ok (.getfield 159, 3) := by decide +kernel
theorem dX11_at_23 : decode cX11_at 23 = .ok (.goto 7, 3) := by decide +kernel
theorem dX11_at_26 : decode cX11_at 26 = .ok (.aload_n 0, 1) := by decide +kernel
theorem dX11_at_27 : decode cX11_at 27 = .ok (.getfield 64, 3) := by decide +kernel
theorem dX11_at_30 : decode cX11_at 30 = .ok (.if_icmp .lt 7, 3) := by decide +kernel
theorem dX11_at_33 : decode cX11_at 33 = .ok (.iconst 1, 1) := by decide +kernel
theorem dX11_at_34 : decode cX11_at 34 = .ok (.goto 4, 3) := by decide +kernel
theorem dX11_at_37 : decode cX11_at 37 = .ok (.iconst 0, 1) := by decide +kernel
theorem dX11_at_38 : decode cX11_at 38 = .ok (.putfield 98, 3) := by decide +kernel
theorem dX11_at_41 : decode cX11_at 41 = .ok (.aload_n 0, 1) := by decide +kernel
theorem dX11_at_42 : decode cX11_at 42 = .ok (.getfield 98, 3) := by decide +kernel
theorem dX11_at_45 : decode cX11_at 45 = .ok (.ifCond .le 7, 3) := by decide +kernel
theorem dX11_at_48 : decode cX11_at 48 = .ok (.iconst 0, 1) := by decide +kernel
theorem dX11_at_49 : decode cX11_at 49 = .ok (.goto 22, 3) := by decide +kernel
theorem dX11_at_52 : decode cX11_at 52 = .ok (.iload_n 1, 1) := by decide +kernel
theorem dX11_at_53 : decode cX11_at 53 = .ok (.ifCond .ne 12, 3) := by decide +kernel
theorem dX11_at_56 : decode cX11_at 56 = .ok (.aload_n 0, 1) := by decide +kernel
theorem dX11_at_57 : decode cX11_at 57 = .ok (.getfield 45, 3) := by decide +kernel
theorem dX11_at_60 : decode cX11_at 60 = .ok (.iload_n 2, 1) := by decide +kernel
theorem dX11_at_61 : decode cX11_at 61 = .ok (.baload, 1) := by decide +kernel
theorem dX11_at_62 : decode cX11_at 62 = .ok (.goto 9, 3) := by decide +kernel
theorem dX11_at_65 : decode cX11_at 65 = .ok (.aload_n 0, 1) := by decide +kernel
theorem dX11_at_66 : decode cX11_at 66 = .ok (.getfield 49, 3) := by decide +kernel
theorem dX11_at_69 : decode cX11_at 69 = .ok (.iload_n 2, 1) := by decide +kernel
theorem dX11_at_70 : decode cX11_at 70 = .ok (.baload, 1) := by decide +kernel
theorem dX11_at_71 : decode cX11_at 71 = .ok (.ireturn, 1) := by decide +kernel
theorem dX11_bytesIn_0 : decode cX11_bytesIn 0 = .ok (.iconst 0, 1) := by decide +kernel
theorem dX11_bytesIn_1 : decode cX11_bytesIn 1 = .ok (.istore_n 1, 1) := by decide +kernel
theorem dX11_bytesIn_2 : decode cX11_bytesIn 2 = .ok (.bipush 24, 2) := by decide +kernel
theorem dX11_bytesIn_4 : decode cX11_bytesIn 4 = .ok (.istore_n 2, 1) := by decide +kernel
theorem dX11_bytesIn_5 : decode cX11_bytesIn 5 = .ok (.iload_n 2, 1) := by decide +kernel
theorem dX11_bytesIn_6 : decode cX11_bytesIn 6 = .ok (.ifCond .lt 27, 3) := by decide +kernel
theorem dX11_bytesIn_9 : decode cX11_bytesIn 9 = .ok (.iload_n 1, 1) := by decide +kernel
theorem dX11_bytesIn_10 : decode cX11_bytesIn 10 = .ok (.iload_n 0, 1) := by decide +kernel
theorem dX11_bytesIn_11 : decode cX11_bytesIn 11 = .ok (.iload_n 2, 1) := by decide +kernel
theorem dX11_bytesIn_12 : decode cX11_bytesIn 12 = .ok (.ishr, 1) := by decide +kernel
theorem dX11_bytesIn_13 : decode cX11_bytesIn 13 = .ok (.sipush 255, 3) := by decide +kernel
theorem dX11_bytesIn_16 : decode cX11_bytesIn 16 = .ok (.iand, 1) := by decide +kernel
theorem dX11_bytesIn_17 : decode cX11_bytesIn 17 = .ok (.ifCond .eq 7, 3) := by decide +kernel
theorem dX11_bytesIn_20 : decode cX11_bytesIn 20 = .ok (.iconst 1, 1) := by decide +kernel
theorem dX11_bytesIn_21 : decode cX11_bytesIn 21 = .ok (.goto 4, 3) := by decide +kernel
theorem dX11_bytesIn_24 : decode cX11_bytesIn 24 = .ok (.iconst 0, 1) := by decide +kernel
theorem dX11_bytesIn_25 : decode cX11_bytesIn 25 = .ok (.iadd, 1) := by decide +kernel
theorem dX11_bytesIn_26 : decode cX11_bytesIn 26 = .ok (.istore_n 1, 1) := by decide +kernel
theorem dX11_bytesIn_27 : decode cX11_bytesIn 27 = .ok (.iinc 2 (-8), 3) := by decide +kernel
theorem dX11_bytesIn_30 : decode cX11_bytesIn 30 = .ok (.goto (-25), 3) := by decide +kernel
theorem dX11_bytesIn_33 : decode cX11_bytesIn 33 = .ok (.iload_n 1, 1) := by decide +kernel
theorem dX11_bytesIn_34 : decode cX11_bytesIn 34 = .ok (.ireturn, 1) := by decide +kernel
theorem dX11_feed_0 : decode cX11_feed 0 = .ok (.aload_n 0, 1) := by decide +kernel
theorem dX11_feed_1 : decode cX11_feed 1 = .ok (.iconst 0, 1) := by decide +kernel
theorem dX11_feed_2 : decode cX11_feed 2 = .ok (.putfield 98, 3) := by decide +kernel
theorem dX11_feed_5 : decode cX11_feed 5 = .ok (.aload_n 0, 1) := by decide +kernel
theorem dX11_feed_6 : decode cX11_feed 6 = .ok (.getfield 181, 3) := by decide +kernel
theorem dX11_feed_9 : decode cX11_feed 9 = .ok (.iload_n 1, 1) := by decide +kernel
theorem dX11_feed_10 : decode cX11_feed 10 = .ok (.invokestatic 184, 3) := by decide +kernel
theorem dX11_feed_13 : decode cX11_feed 13 = .ok (.iadd, 1) := by decide +kernel
theorem dX11_feed_14 : decode cX11_feed 14 = .ok (.iload_n 2, 1) := by decide +kernel
theorem dX11_feed_15 : decode cX11_feed 15 = .ok (.invokestatic 184, 3) := by decide +kernel
theorem dX11_feed_18 : decode cX11_feed 18 = .ok (.iadd, 1) := by decide +kernel
theorem dX11_feed_19 : decode cX11_feed 19 = .ok (.bipush 26, 2) := by decide +kernel
theorem dX11_feed_21 : decode cX11_feed 21 = .ok (.if_icmp .le 5, 3) := by decide +kernel
theorem dX11_feed_24 : decode cX11_feed 24 = .ok (.iconst (-1), 1) := by decide +kernel
theorem dX11_feed_25 : decode cX11_feed 25 = .ok (.ireturn, 1) := by decide +kernel
theorem dX11_feed_26 : decode cX11_feed 26 = .ok (.iconst 0, 1) := by decide +kernel
theorem dX11_feed_27 : decode cX11_feed 27 = .ok (.istore_n 3, 1) := by decide +kernel
theorem dX11_feed_28 : decode cX11_feed 28 = .ok (.iload_n 3, 1) := by decide +kernel
theorem dX11_feed_29 : decode cX11_feed 29 = .ok (.iconst 2, 1) := by decide +kernel
theorem dX11_feed_30 : decode cX11_feed 30 = .ok (.if_icmp .ge 75, 3) := by decide +kernel
theorem dX11_feed_33 : decode cX11_feed 33 = .ok (.iload_n 3, 1) := by decide +kernel
theorem dX11_feed_34 : decode cX11_feed 34 = .ok (.ifCond .ne 7, 3) := by decide +kernel
theorem dX11_feed_37 : decode cX11_feed 37 = .ok (.iload_n 1, 1) := by decide +kernel
theorem dX11_feed_38 : decode cX11_feed 38 = .ok (.goto 4, 3) := by decide +kernel
theorem dX11_feed_41 : decode cX11_feed 41 = .ok (.iload_n 2, 1) := by decide +kernel
theorem dX11_feed_42 : decode cX11_feed 42 = .ok (.istore 4, 2) := by decide +kernel
theorem dX11_feed_44 : decode cX11_feed 44 = .ok (.bipush 24, 2) := by decide +kernel
theorem dX11_feed_46 : decode cX11_feed 46 = .ok (.istore 5, 2) := by decide +kernel
theorem dX11_feed_48 : decode cX11_feed 48 = .ok (.iload 5, 2) := by decide +kernel
theorem dX11_feed_50 : decode cX11_feed 50 = .ok (.ifCond .lt 49, 3) := by decide +kernel
theorem dX11_feed_53 : decode cX11_feed 53 = .ok (.iload 4, 2) := by decide +kernel
theorem dX11_feed_55 : decode cX11_feed 55 = .ok (.iload 5, 2) := by decide +kernel
theorem dX11_feed_57 : decode cX11_feed 57 = .ok (.ishr, 1) := by decide +kernel
theorem dX11_feed_58 : decode cX11_feed 58 = .ok (.sipush 255, 3) := by decide +kernel
theorem dX11_feed_61 : decode cX11_feed 61 = .ok (.iand, 1) := by decide +kernel
theorem dX11_feed_62 : decode cX11_feed 62 = .ok (.ifCond .ne 6, 3) := by decide +kernel
theorem dX11_feed_65 : decode cX11_feed 65 = .ok (.goto 28, 3) := by decide +kernel
theorem dX11_feed_68 : decode cX11_feed 68 = .ok (.aload_n 0, 1) := by decide +kernel
theorem dX11_feed_69 : decode cX11_feed 69 = .ok (.getfield 67, 3) := by decide +kernel
theorem dX11_feed_72 : decode cX11_feed 72 = .ok (.aload_n 0, 1) := by decide +kernel
theorem dX11_feed_73 : decode cX11_feed 73 = .ok (.getfield 181, 3) := by decide +kernel
theorem dX11_feed_76 : decode cX11_feed 76 = .ok (.iload 4, 2) := by decide +kernel
theorem dX11_feed_78 : decode cX11_feed 78 = .ok (.iload 5, 2) := by decide +kernel
theorem dX11_feed_80 : decode cX11_feed 80 = .ok (.ishr, 1) := by decide +kernel
theorem dX11_feed_81 : decode cX11_feed 81 = .ok (.i2b, 1) := by decide +kernel
theorem dX11_feed_82 : decode cX11_feed 82 = .ok (.bastore, 1) := by decide +kernel
theorem dX11_feed_83 : decode cX11_feed 83 = .ok (.aload_n 0, 1) := by decide +kernel
theorem dX11_feed_84 : decode cX11_feed 84 = .ok (.dup, 1) := by decide +kernel
theorem dX11_feed_85 : decode cX11_feed 85 = .ok (.getfield 181, 3) := by decide +kernel
theorem dX11_feed_88 : decode cX11_feed 88 = .ok (.iconst 1, 1) := by decide +kernel
theorem dX11_feed_89 : decode cX11_feed 89 = .ok (.iadd, 1) := by decide +kernel
theorem dX11_feed_90 : decode cX11_feed 90 = .ok (.putfield 181, 3) := by decide +kernel
theorem dX11_feed_93 : decode cX11_feed 93 = .ok (.iinc 5 (-8), 3) := by decide +kernel
theorem dX11_feed_96 : decode cX11_feed 96 = .ok (.goto (-48), 3) := by decide +kernel
theorem dX11_feed_99 : decode cX11_feed 99 = .ok (.iinc 3 1, 3) := by decide +kernel
theorem dX11_feed_102 : decode cX11_feed 102 = .ok (.goto (-74), 3) := by decide +kernel
theorem dX11_feed_105 : decode cX11_feed 105 = .ok (.aload_n 0, 1) := by decide +kernel
theorem dX11_feed_106 : decode cX11_feed 106 = .ok (.getfield 181, 3) := by decide +kernel
theorem dX11_feed_109 : decode cX11_feed 109 = .ok (.ireturn, 1) := by decide +kernel
theorem dX11_end_0 : decode cX11_end 0 = .ok (.aload_n 0, 1) := by decide +kernel
theorem dX11_end_1 : decode cX11_end 1 = .ok (.iconst 0, 1) := by decide +kernel
theorem dX11_end_2 : decode cX11_end 2 = .ok (.putfield 98, 3) := by decide +kernel
theorem dX11_end_5 : decode cX11_end 5 = .ok (.iload_n 1, 1) := by decide +kernel
theorem dX11_end_6 : decode cX11_end 6 = .ok (.ifCond .lt 11, 3) := by decide +kernel
theorem dX11_end_9 : decode cX11_end 9 = .ok (.iload_n 1, 1) := by decide +kernel
theorem dX11_end_10 : decode cX11_end 10 = .ok (.aload_n 0, 1) := by decide +kernel
theorem dX11_end_11 : decode cX11_end 11 = .ok (.getfield 181, 3) := by decide +kernel
theorem dX11_end_14 : decode cX11_end 14 = .ok (.if_icmp .le 5, 3) := by decide +kernel
theorem dX11_end_17 : decode cX11_end 17 = .ok (.iconst 0, 1) := by decide +kernel
theorem dX11_end_18 : decode cX11_end 18 = .ok (.ireturn, 1) := by decide +kernel
theorem dX11_end_19 : decode cX11_end 19 = .ok (.aload_n 0, 1) := by decide +kernel
theorem dX11_end_20 : decode cX11_end 20 = .ok (.iload_n 1, 1) := by decide +kernel
theorem dX11_end_21 : decode cX11_end 21 = .ok (.putfield 181, 3) := by decide +kernel
theorem dX11_end_24 : decode cX11_end 24 = .ok (.iconst 1, 1) := by decide +kernel
theorem dX11_end_25 : decode cX11_end 25 = .ok (.ireturn, 1) := by decide +kernel
theorem dX11_isRow_0 : decode cX11_isRow 0 = .ok (.aload_n 0, 1) := by decide +kernel
theorem dX11_isRow_1 : decode cX11_isRow 1 = .ok (.getfield 181, 3) := by decide +kernel
theorem dX11_isRow_4 : decode cX11_isRow 4 = .ok (.ifCond .le 7, 3) := by decide +kernel
theorem dX11_isRow_7 : decode cX11_isRow 7 = .ok (.iconst 1, 1) := by decide +kernel
theorem dX11_isRow_8 : decode cX11_isRow 8 = .ok (.goto 4, 3) := by decide +kernel
theorem dX11_isRow_11 : decode cX11_isRow 11 = .ok (.iconst 0, 1) := by decide +kernel
theorem dX11_isRow_12 : decode cX11_isRow 12 = .ok (.istore_n 1, 1) := by decide +kernel
theorem dX11_isRow_13 : decode cX11_isRow 13 = .ok (.iconst 0, 1) := by decide +kernel
theorem dX11_isRow_14 : decode cX11_isRow 14 = .ok (.istore_n 2, 1) := by decide +kernel
theorem dX11_isRow_15 : decode cX11_isRow 15 = .ok (.iload_n 2, 1) := by decide +kernel
theorem dX11_isRow_16 : decode cX11_isRow 16 = .ok (.aload_n 0, 1) := by decide +kernel
theorem dX11_isRow_17 : decode cX11_isRow 17 = .ok (.getfield 181, 3) := by decide +kernel
theorem dX11_isRow_20 : decode cX11_isRow 20 = .ok (.if_icmp .ge 31, 3) := by decide +kernel
theorem dX11_isRow_23 : decode cX11_isRow 23 = .ok (.iload_n 1, 1) := by decide +kernel
theorem dX11_isRow_24 : decode cX11_isRow 24 = .ok (.ifCond .eq 19, 3) := by decide +kernel
theorem dX11_isRow_27 : decode cX11_isRow 27 = .ok (.aload_n 0, 1) := by decide +kernel
theorem dX11_isRow_28 : decode cX11_isRow 28 = .ok (.getfield 67, 3) := by decide +kernel
theorem dX11_isRow_31 : decode cX11_isRow 31 = .ok (.iload_n 2, 1) := by decide +kernel
theorem dX11_isRow_32 : decode cX11_isRow 32 = .ok (.baload, 1) := by decide +kernel
theorem dX11_isRow_33 : decode cX11_isRow 33 = .ok (.invokestatic 124, 3) := by decide +kernel
theorem dX11_isRow_36 : decode cX11_isRow 36 = .ok (.ifCond .eq 7, 3) := by decide +kernel
theorem dX11_isRow_39 : decode cX11_isRow 39 = .ok (.iconst 1, 1) := by decide +kernel
theorem dX11_isRow_40 : decode cX11_isRow 40 = .ok (.goto 4, 3) := by decide +kernel
end
section
theorem dX11_isRow_43 : decode cX11_isRow 43 = .ok (.iconst 0, 1) := by decide +kernel
theorem dX11_isRow_44 : decode cX11_isRow 44 = .ok (.istore_n 1, 1) := by decide +kernel
theorem dX11_isRow_45 : decode cX11_isRow 45 = .ok (.iinc 2 1, 3) := by decide +kernel
theorem dX11_isRow_48 : decode cX11_isRow 48 = .ok (.goto (-33), 3) := by decide +kernel
theorem dX11_isRow_51 : decode cX11_isRow 51 = .ok (.iload_n 1, 1) := by decide +kernel
theorem dX11_isRow_52 : decode cX11_isRow 52 = .ok (.ireturn, 1) := by decide +kernel
theorem dX11_word_0 : decode cX11_word 0 = .ok (.aload_n 0, 1) := by decide +kernel
theorem dX11_word_1 : decode cX11_word 1 = .ok (.iconst 0, 1) := by decide +kernel
theorem dX11_word_2 : decode cX11_word 2 = .ok (.putfield 98, 3) := by decide +kernel
theorem dX11_word_5 : decode cX11_word 5 = .ok (.aload_n 0, 1) := by decide +kernel
theorem dX11_word_6 : decode cX11_word 6 = .ok (.invokevirtual 187, 3) := by decide +kernel
theorem dX11_word_9 : decode cX11_word 9 = .ok (.ifCond .eq 23, 3) := by decide +kernel
theorem dX11_word_12 : decode cX11_word 12 = .ok (.aload_n 0, 1) := by decide +kernel
theorem dX11_word_13 : decode cX11_word 13 = .ok (.getfield 181, 3) := by decide +kernel
theorem dX11_word_16 : decode cX11_word 16 = .ok (.bipush 12, 2) := by decide +kernel
theorem dX11_word_18 : decode cX11_word 18 = .ok (.if_icmp .gt 14, 3) := by decide +kernel
theorem dX11_word_21 : decode cX11_word 21 = .ok (.iload_n 1, 1) := by decide +kernel
theorem dX11_word_22 : decode cX11_word 22 = .ok (.iconst 0, 1) := by decide +kernel
theorem dX11_word_23 : decode cX11_word 23 = .ok (.sipush 10000, 3) := by decide +kernel
theorem dX11_word_26 : decode cX11_word 26 = .ok (.invokestatic 120, 3) := by decide +kernel
theorem dX11_word_29 : decode cX11_word 29 = .ok (.ifCond .ne 5, 3) := by decide +kernel
theorem dX11_word_32 : decode cX11_word 32 = .ok (.iconst (-1), 1) := by decide +kernel
theorem dX11_word_33 : decode cX11_word 33 = .ok (.ireturn, 1) := by decide +kernel
theorem dX11_word_34 : decode cX11_word 34 = .ok (.iconst 0, 1) := by decide +kernel
theorem dX11_word_35 : decode cX11_word 35 = .ok (.istore_n 2, 1) := by decide +kernel
theorem dX11_word_36 : decode cX11_word 36 = .ok (.iload_n 2, 1) := by decide +kernel
theorem dX11_word_37 : decode cX11_word 37 = .ok (.aload_n 0, 1) := by decide +kernel
theorem dX11_word_38 : decode cX11_word 38 = .ok (.getfield 191, 3) := by decide +kernel
theorem dX11_word_41 : decode cX11_word 41 = .ok (.if_icmp .ge 17, 3) := by decide +kernel
theorem dX11_word_44 : decode cX11_word 44 = .ok (.aload_n 0, 1) := by decide +kernel
theorem dX11_word_45 : decode cX11_word 45 = .ok (.iload_n 2, 1) := by decide +kernel
theorem dX11_word_46 : decode cX11_word 46 = .ok (.invokevirtual 194, 3) := by decide +kernel
theorem dX11_word_49 : decode cX11_word 49 = .ok (.ifCond .ne 9, 3) := by decide +kernel
theorem dX11_word_52 : decode cX11_word 52 = .ok (.iinc 2 1, 3) := by decide +kernel
theorem dX11_word_55 : decode cX11_word 55 = .ok (.goto (-19), 3) := by decide +kernel
theorem dX11_word_58 : decode cX11_word 58 = .ok (.iload_n 2, 1) := by decide +kernel
theorem dX11_word_59 : decode cX11_word 59 = .ok (.bipush 40, 2) := by decide +kernel
theorem dX11_word_61 : decode cX11_word 61 = .ok (.if_icmp .ne 5, 3) := by decide +kernel
theorem dX11_word_64 : decode cX11_word 64 = .ok (.iconst (-1), 1) := by decide +kernel
theorem dX11_word_65 : decode cX11_word 65 = .ok (.ireturn, 1) := by decide +kernel
theorem dX11_word_66 : decode cX11_word 66 = .ok (.iload_n 2, 1) := by decide +kernel
theorem dX11_word_67 : decode cX11_word 67 = .ok (.aload_n 0, 1) := by decide +kernel
theorem dX11_word_68 : decode cX11_word 68 = .ok (.getfield 191, 3) := by decide +kernel
theorem dX11_word_71 : decode cX11_word 71 = .ok (.if_icmp .ne 56, 3) := by decide +kernel
theorem dX11_word_74 : decode cX11_word 74 = .ok (.iconst 0, 1) := by decide +kernel
theorem dX11_word_75 : decode cX11_word 75 = .ok (.istore_n 3, 1) := by decide +kernel
theorem dX11_word_76 : decode cX11_word 76 = .ok (.iload_n 3, 1) := by decide +kernel
theorem dX11_word_77 : decode cX11_word 77 = .ok (.aload_n 0, 1) := by decide +kernel
theorem dX11_word_78 : decode cX11_word 78 = .ok (.getfield 181, 3) := by decide +kernel
theorem dX11_word_81 : decode cX11_word 81 = .ok (.if_icmp .ge 26, 3) := by decide +kernel
theorem dX11_word_84 : decode cX11_word 84 = .ok (.aload_n 0, 1) := by decide +kernel
theorem dX11_word_85 : decode cX11_word 85 = .ok (.getfield 70, 3) := by decide +kernel
theorem dX11_word_88 : decode cX11_word 88 = .ok (.bipush 12, 2) := by decide +kernel
theorem dX11_word_90 : decode cX11_word 90 = .ok (.iload_n 2, 1) := by decide +kernel
theorem dX11_word_91 : decode cX11_word 91 = .ok (.imul, 1) := by decide +kernel
theorem dX11_word_92 : decode cX11_word 92 = .ok (.iload_n 3, 1) := by decide +kernel
theorem dX11_word_93 : decode cX11_word 93 = .ok (.iadd, 1) := by decide +kernel
theorem dX11_word_94 : decode cX11_word 94 = .ok (.aload_n 0, 1) := by decide +kernel
theorem dX11_word_95 : decode cX11_word 95 = .ok (.getfield 67, 3) := by decide +kernel
theorem dX11_word_98 : decode cX11_word 98 = .ok (.iload_n 3, 1) := by decide +kernel
theorem dX11_word_99 : decode cX11_word 99 = .ok (.baload, 1) := by decide +kernel
theorem dX11_word_100 : decode cX11_word 100 = .ok (.bastore, 1) := by decide +kernel
theorem dX11_word_101 : decode cX11_word 101 = .ok (.iinc 3 1, 3) := by decide +kernel
theorem dX11_word_104 : decode cX11_word 104 = .ok (.goto (-28), 3) := by decide +kernel
theorem dX11_word_107 : decode cX11_word 107 = .ok (.aload_n 0, 1) := by decide +kernel
theorem dX11_word_108 : decode cX11_word 108 = .ok (.getfield 73, 3) := by decide +kernel
theorem dX11_word_111 : decode cX11_word 111 = .ok (.iload_n 2, 1) := by decide +kernel
theorem dX11_word_112 : decode cX11_word 112 = .ok (.aload_n 0, 1) := by decide +kernel
theorem dX11_word_113 : decode cX11_word 113 = .ok (.getfield 181, 3) := by decide +kernel
theorem dX11_word_116 : decode cX11_word 116 = .ok (.iastore, 1) := by decide +kernel
theorem dX11_word_117 : decode cX11_word 117 = .ok (.aload_n 0, 1) := by decide +kernel
theorem dX11_word_118 : decode cX11_word 118 = .ok (.dup, 1) := by decide +kernel
theorem dX11_word_119 : decode cX11_word 119 = .ok (.getfield 191, 3) := by decide +kernel
theorem dX11_word_122 : decode cX11_word 122 = .ok (.iconst 1, 1) := by decide +kernel
theorem dX11_word_123 : decode cX11_word 123 = .ok (.iadd, 1) := by decide +kernel
theorem dX11_word_124 : decode cX11_word 124 = .ok (.putfield 191, 3) := by decide +kernel
theorem dX11_word_127 : decode cX11_word 127 = .ok (.aload_n 0, 1) := by decide +kernel
theorem dX11_word_128 : decode cX11_word 128 = .ok (.getfield 76, 3) := by decide +kernel
theorem dX11_word_131 : decode cX11_word 131 = .ok (.iload_n 2, 1) := by decide +kernel
theorem dX11_word_132 : decode cX11_word 132 = .ok (.iload_n 1, 1) := by decide +kernel
theorem dX11_word_133 : decode cX11_word 133 = .ok (.iastore, 1) := by decide +kernel
theorem dX11_word_134 : decode cX11_word 134 = .ok (.aload_n 0, 1) := by decide +kernel
theorem dX11_word_135 : decode cX11_word 135 = .ok (.iconst 0, 1) := by decide +kernel
theorem dX11_word_136 : decode cX11_word 136 = .ok (.putfield 181, 3) := by decide +kernel
theorem dX11_word_139 : decode cX11_word 139 = .ok (.iload_n 2, 1) := by decide +kernel
theorem dX11_word_140 : decode cX11_word 140 = .ok (.ireturn, 1) := by decide +kernel
theorem dX11_isWord_0 : decode cX11_isWord 0 = .ok (.aload_n 0, 1) := by decide +kernel
theorem dX11_isWord_1 : decode cX11_isWord 1 = .ok (.getfield 73, 3) := by decide +kernel
theorem dX11_isWord_4 : decode cX11_isWord 4 = .ok (.iload_n 1, 1) := by decide +kernel
theorem dX11_isWord_5 : decode cX11_isWord 5 = .ok (.iaload, 1) := by decide +kernel
theorem dX11_isWord_6 : decode cX11_isWord 6 = .ok (.aload_n 0, 1) := by decide +kernel
theorem dX11_isWord_7 : decode cX11_isWord 7 = .ok (.getfield 181, 3) := by decide +kernel
theorem dX11_isWord_10 : decode cX11_isWord 10 = .ok (.if_icmp .ne 7, 3) := by decide +kernel
theorem dX11_isWord_13 : decode cX11_isWord 13 = .ok (.iconst 1, 1) := by decide +kernel
theorem dX11_isWord_14 : decode cX11_isWord 14 = .ok (.goto 4, 3) := by decide +kernel
theorem dX11_isWord_17 : decode cX11_isWord 17 = .ok (.iconst 0, 1) := by decide +kernel
theorem dX11_isWord_18 : decode cX11_isWord 18 = .ok (.istore_n 2, 1) := by decide +kernel
theorem dX11_isWord_19 : decode cX11_isWord 19 = .ok (.iconst 0, 1) := by decide +kernel
theorem dX11_isWord_20 : decode cX11_isWord 20 = .ok (.istore_n 3, 1) := by decide +kernel
theorem dX11_isWord_21 : decode cX11_isWord 21 = .ok (.iload_n 3, 1) := by decide +kernel
theorem dX11_isWord_22 : decode cX11_isWord 22 = .ok (.aload_n 0, 1) := by decide +kernel
theorem dX11_isWord_23 : decode cX11_isWord 23 = .ok (.getfield 181, 3) := by decide +kernel
theorem dX11_isWord_26 : decode cX11_isWord 26 = .ok (.if_icmp .ge 39, 3) := by decide +kernel
theorem dX11_isWord_29 : decode cX11_isWord 29 = .ok (.iload_n 2, 1) := by decide +kernel
theorem dX11_isWord_30 : decode cX11_isWord 30 = .ok (.ifCond .eq 35, 3) := by decide +kernel
theorem dX11_isWord_33 : decode cX11_isWord 33 = .ok (.aload_n 0, 1) := by decide +kernel
theorem dX11_isWord_34 : decode cX11_isWord 34 = .ok (.getfield 70, 3) := by decide +kernel
theorem dX11_isWord_37 : decode cX11_isWord 37 = .ok (.bipush 12, 2) := by decide +kernel
theorem dX11_isWord_39 : decode cX11_isWord 39 = .ok (.iload_n 1, 1) := by decide +kernel
theorem dX11_isWord_40 : decode cX11_isWord 40 = .ok (.imul, 1) := by decide +kernel
theorem dX11_isWord_41 : decode cX11_isWord 41 = .ok (.iload_n 3, 1) := by decide +kernel
theorem dX11_isWord_42 : decode cX11_isWord 42 = .ok (.iadd, 1) := by decide +kernel
theorem dX11_isWord_43 : decode cX11_isWord 43 = .ok (.baload, 1) := by decide +kernel
theorem dX11_isWord_44 : decode cX11_isWord 44 = .ok (.aload_n 0, 1) := by decide +kernel
theorem dX11_isWord_45 : decode cX11_isWord 45 = .ok (.getfield 67, 3) := by decide +kernel
theorem dX11_isWord_48 : decode cX11_isWord 48 = .ok (.iload_n 3, 1) := by decide +kernel
theorem dX11_isWord_49 : decode cX11_isWord 49 = .ok (.baload, 1) := by decide +kernel
theorem dX11_isWord_50 : decode cX11_isWord 50 = .ok (.if_icmp .ne 7, 3) := by decide +kernel
theorem dX11_isWord_53 : decode cX11_isWord 53 = .ok (.iconst 1, 1) := by decide +kernel
theorem dX11_isWord_54 : decode cX11_isWord 54 = .ok (.goto 4, 3) := by decide +kernel
theorem dX11_isWord_57 : decode cX11_isWord 57 = .ok (.iconst 0, 1) := by decide +kernel
theorem dX11_isWord_58 : decode cX11_isWord 58 = .ok (.istore_n 2, 1) := by decide +kernel
theorem dX11_isWord_59 : decode cX11_isWord 59 = .ok (.iinc 3 1, 3) := by decide +kernel
theorem dX11_isWord_62 : decode cX11_isWord 62 = .ok (.goto (-41), 3) := by decide +kernel
theorem dX11_isWord_65 : decode cX11_isWord 65 = .ok (.iload_n 2, 1) := by decide +kernel
theorem dX11_isWord_66 : decode cX11_isWord 66 = .ok (.ireturn, 1) := by decide +kernel
theorem dX11_letter_0 : decode cX11_letter 0 = .ok (.aload_n 0, 1) := by decide +kernel
theorem dX11_letter_1 : decode cX11_letter 1 = .ok (.iload_n 1, 1) := by decide +kernel
theorem dX11_letter_2 : decode cX11_letter 2 = .ok (.iconst 0, 1) := by decide +kernel
theorem dX11_letter_3 : decode cX11_letter 3 = .ok (.aload_n 0, 1) := by decide +kernel
theorem dX11_letter_4 : decode cX11_letter 4 = .ok (.getfield 191, 3) := by decide +kernel
theorem dX11_letter_7 : decode cX11_letter 7 = .ok (.iconst 1, 1) := by decide +kernel
theorem dX11_letter_8 : decode cX11_letter 8 = .ok (.isub, 1) := by decide +kernel
theorem dX11_letter_9 : decode cX11_letter 9 = .ok (.invokestatic 120, 3) := by decide +kernel
theorem dX11_letter_12 : decode cX11_letter 12 = .ok (.ifCond .eq 17, 3) := by decide +kernel
theorem dX11_letter_15 : decode cX11_letter 15 = .ok (.iload_n 2, 1) := by decide +kernel
theorem dX11_letter_16 : decode cX11_letter 16 = .ok (.ifCond .lt 13, 3) := by decide +kernel
theorem dX11_letter_19 : decode cX11_letter 19 = .ok (.iload_n 2, 1) := by decide +kernel
theorem dX11_letter_20 : decode cX11_letter 20 = .ok (.aload_n 0, 1) := by decide +kernel
theorem dX11_letter_21 : decode cX11_letter 21 = .ok (.getfield 73, 3) := by decide +kernel
theorem dX11_letter_24 : decode cX11_letter 24 = .ok (.iload_n 1, 1) := by decide +kernel
theorem dX11_letter_25 : decode cX11_letter 25 = .ok (.iaload, 1) := by decide +kernel
theorem dX11_letter_26 : decode cX11_letter 26 = .ok (.if_icmp .lt 7, 3) := by decide +kernel
theorem dX11_letter_29 : decode cX11_letter 29 = .ok (.iconst 1, 1) := by decide +kernel
theorem dX11_letter_30 : decode cX11_letter 30 = .ok (.goto 4, 3) := by decide +kernel
theorem dX11_letter_33 : decode cX11_letter 33 = .ok (.iconst 0, 1) := by decide +kernel
theorem dX11_letter_34 : decode cX11_letter 34 = .ok (.putfield 98, 3) := by decide +kernel
theorem dX11_letter_37 : decode cX11_letter 37 = .ok (.aload_n 0, 1) := by decide +kernel
theorem dX11_letter_38 : decode cX11_letter 38 = .ok (.getfield 98, 3) := by decide +kernel
theorem dX11_letter_41 : decode cX11_letter 41 = .ok (.ifCond .le 7, 3) := by decide +kernel
theorem dX11_letter_44 : decode cX11_letter 44 = .ok (.iconst 0, 1) := by decide +kernel
theorem dX11_letter_45 : decode cX11_letter 45 = .ok (.goto 14, 3) := by decide +kernel
theorem dX11_letter_48 : decode cX11_letter 48 = .ok (.aload_n 0, 1) := by decide +kernel
theorem dX11_letter_49 : decode cX11_letter 49 = .ok (.getfield 70, 3) := by decide +kernel
theorem dX11_letter_52 : decode cX11_letter 52 = .ok (.bipush 12, 2) := by decide +kernel
theorem dX11_letter_54 : decode cX11_letter 54 = .ok (.iload_n 1, 1) := by decide +kernel
theorem dX11_letter_55 : decode cX11_letter 55 = .ok (.imul, 1) := by decide +kernel
theorem dX11_letter_56 : decode cX11_letter 56 = .ok (.iload_n 2, 1) := by decide +kernel
theorem dX11_letter_57 : decode cX11_letter 57 = .ok (.iadd, 1) := by decide +kernel
theorem dX11_letter_58 : decode cX11_letter 58 = .ok (.baload, 1) := by decide +kernel
theorem dX11_letter_59 : decode cX11_letter 59 = .ok (.ireturn, 1) := by decide +kernel
theorem dX11_written_0 : decode cX11_written 0 = .ok (.iconst 0, 1) := by decide +kernel
theorem dX11_written_1 : decode cX11_written 1 = .ok (.istore_n 1, 1) := by decide +kernel
theorem dX11_written_2 : decode cX11_written 2 = .ok (.iload_n 1, 1) := by decide +kernel
theorem dX11_written_3 : decode cX11_written 3 = .ok (.aload_n 0, 1) := by decide +kernel
theorem dX11_written_4 : decode cX11_written 4 = .ok (.getfield 159, 3) := by decide +kernel
theorem dX11_written_7 : decode cX11_written 7 = .ok (.if_icmp .ge 28, 3) := by decide +kernel
theorem dX11_written_10 : decode cX11_written 10 = .ok (.aload_n 0, 1) := by decide +kernel
theorem dX11_written_11 : decode cX11_written 11 = .ok (.getfield 45, 3) := by decide +kernel
theorem dX11_written_14 : decode cX11_written 14 = .ok (.aload_n 0, 1) := by decide +kernel
theorem dX11_written_15 : decode cX11_written 15 = .ok (.getfield 159, 3) := by decide +kernel
theorem dX11_written_18 : decode cX11_written 18 = .ok (.iconst 1, 1) := by decide +kernel
theorem dX11_written_19 : decode cX11_written 19 = .ok (.isub, 1) := by decide +kernel
theorem dX11_written_20 : decode cX11_written 20 = .ok (.iload_n 1, 1) := by decide +kernel
theorem dX11_written_21 : decode cX11_written 21 = .ok (.isub, 1) := by decide +kernel
theorem dX11_written_22 : decode cX11_written 22 = .ok (.baload, 1) := by decide +kernel
theorem dX11_written_23 : decode cX11_written 23 = .ok (.invokestatic 124, 3) := by decide +kernel
theorem dX11_written_26 : decode cX11_written 26 = .ok (.ifCond .eq 9, 3) := by decide +kernel
theorem dX11_written_29 : decode cX11_written 29 = .ok (.iinc 1 1, 3) := by decide +kernel
theorem dX11_written_32 : decode cX11_written 32 = .ok (.goto (-30), 3) := by decide +kernel
theorem dX11_written_35 : decode cX11_written 35 = .ok (.iload_n 1, 1) := by decide +kernel
theorem dX11_written_36 : decode cX11_written 36 = .ok (.ireturn, 1) := by decide +kernel
theorem dX11_ranked_0 : decode cX11_ranked 0 = .ok (.iconst 0, 1) := by decide +kernel
theorem dX11_ranked_1 : decode cX11_ranked 1 = .ok (.istore_n 2, 1) := by decide +kernel
theorem dX11_ranked_2 : decode cX11_ranked 2 = .ok (.iload_n 2, 1) := by decide +kernel
theorem dX11_ranked_3 : decode cX11_ranked 3 = .ok (.aload_n 0, 1) := by decide +kernel
theorem dX11_ranked_4 : decode cX11_ranked 4 = .ok (.getfield 191, 3) := by decide +kernel
theorem dX11_ranked_7 : decode cX11_ranked 7 = .ok (.if_icmp .ge 140, 3) := by decide +kernel
theorem dX11_ranked_10 : decode cX11_ranked 10 = .ok (.aload_n 0, 1) := by decide +kernel
theorem dX11_ranked_11 : decode cX11_ranked 11 = .ok (.getfield 79, 3) := by decide +kernel
theorem dX11_ranked_14 : decode cX11_ranked 14 = .ok (.iload_n 2, 1) := by decide +kernel
theorem dX11_ranked_15 : decode cX11_ranked 15 = .ok (.iaload, 1) := by decide +kernel
theorem dX11_ranked_16 : decode cX11_ranked 16 = .ok (.ifCond .ge 6, 3) := by decide +kernel
theorem dX11_ranked_19 : decode cX11_ranked 19 = .ok (.goto 122, 3) := by decide +kernel
theorem dX11_ranked_22 : decode cX11_ranked 22 = .ok (.iconst 0, 1) := by decide +kernel
theorem dX11_ranked_23 : decode cX11_ranked 23 = .ok (.istore_n 3, 1) := by decide +kernel
theorem dX11_ranked_24 : decode cX11_ranked 24 = .ok (.iconst 0, 1) := by decide +kernel
theorem dX11_ranked_25 : decode cX11_ranked 25 = .ok (.istore 4, 2) := by decide +kernel
theorem dX11_ranked_27 : decode cX11_ranked 27 = .ok (.iload 4, 2) := by decide +kernel
theorem dX11_ranked_29 : decode cX11_ranked 29 = .ok (.aload_n 0, 1) := by decide +kernel
theorem dX11_ranked_30 : decode cX11_ranked 30 = .ok (.getfield 191, 3) := by decide +kernel
theorem dX11_ranked_33 : decode cX11_ranked 33 = .ok (.if_icmp .ge 101, 3) := by decide +kernel
theorem dX11_ranked_36 : decode cX11_ranked 36 = .ok (.aload_n 0, 1) := by decide +kernel
theorem dX11_ranked_37 : decode cX11_ranked 37 = .ok (.getfield 79, 3) := by decide +kernel
theorem dX11_ranked_40 : decode cX11_ranked 40 = .ok (.iload 4, 2) := by decide +kernel
theorem dX11_ranked_42 : decode cX11_ranked 42 = .ok (.iaload, 1) := by decide +kernel
theorem dX11_ranked_43 : decode cX11_ranked 43 = .ok (.ifCond .lt 85, 3) := by decide +kernel
theorem dX11_ranked_46 : decode cX11_ranked 46 = .ok (.iload 4, 2) := by decide +kernel
theorem dX11_ranked_48 : decode cX11_ranked 48 = .ok (.iload_n 2, 1) := by decide +kernel
theorem dX11_ranked_49 : decode cX11_ranked 49 = .ok (.if_icmp .ne 6, 3) := by decide +kernel
theorem dX11_ranked_52 : decode cX11_ranked 52 = .ok (.goto 76, 3) := by decide +kernel
theorem dX11_ranked_55 : decode cX11_ranked 55 = .ok (.aload_n 0, 1) := by decide +kernel
theorem dX11_ranked_56 : decode cX11_ranked 56 = .ok (.getfield 79, 3) := by decide +kernel
theorem dX11_ranked_59 : decode cX11_ranked 59 = .ok (.iload 4, 2) := by decide +kernel
theorem dX11_ranked_61 : decode cX11_ranked 61 = .ok (.iaload, 1) := by decide +kernel
theorem dX11_ranked_62 : decode cX11_ranked 62 = .ok (.aload_n 0, 1) := by decide +kernel
theorem dX11_ranked_63 : decode cX11_ranked 63 = .ok (.getfield 79, 3) := by decide +kernel
theorem dX11_ranked_66 : decode cX11_ranked 66 = .ok (.iload_n 2, 1) := by decide +kernel
theorem dX11_ranked_67 : decode cX11_ranked 67 = .ok (.iaload, 1) := by decide +kernel
theorem dX11_ranked_68 : decode cX11_ranked 68 = .ok (.if_icmp .lt 57, 3) := by decide +kernel
theorem dX11_ranked_71 : decode cX11_ranked 71 = .ok (.aload_n 0, 1) := by decide +kernel
theorem dX11_ranked_72 : decode cX11_ranked 72 = .ok (.getfield 79, 3) := by decide +kernel
theorem dX11_ranked_75 : decode cX11_ranked 75 = .ok (.iload 4, 2) := by decide +kernel
theorem dX11_ranked_77 : decode cX11_ranked 77 = .ok (.iaload, 1) := by decide +kernel
theorem dX11_ranked_78 : decode cX11_ranked 78 = .ok (.aload_n 0, 1) := by decide +kernel
theorem dX11_ranked_79 : decode cX11_ranked 79 = .ok (.getfield 79, 3) := by decide +kernel
theorem dX11_ranked_82 : decode cX11_ranked 82 = .ok (.iload_n 2, 1) := by decide +kernel
theorem dX11_ranked_83 : decode cX11_ranked 83 = .ok (.iaload, 1) := by decide +kernel
theorem dX11_ranked_84 : decode cX11_ranked 84 = .ok (.if_icmp .ne 44, 3) := by decide +kernel
theorem dX11_ranked_87 : decode cX11_ranked 87 = .ok (.aload_n 0, 1) := by decide +kernel
theorem dX11_ranked_88 : decode cX11_ranked 88 = .ok (.getfield 76, 3) := by decide +kernel
theorem dX11_ranked_91 : decode cX11_ranked 91 = .ok (.iload 4, 2) := by decide +kernel
theorem dX11_ranked_93 : decode cX11_ranked 93 = .ok (.iaload, 1) := by decide +kernel
theorem dX11_ranked_94 : decode cX11_ranked 94 = .ok (.aload_n 0, 1) := by decide +kernel
theorem dX11_ranked_95 : decode cX11_ranked 95 = .ok (.getfield 76, 3) := by decide +kernel
theorem dX11_ranked_98 : decode cX11_ranked 98 = .ok (.iload_n 2, 1) := by decide +kernel
theorem dX11_ranked_99 : decode cX11_ranked 99 = .ok (.iaload, 1) := by decide +kernel
theorem dX11_ranked_100 : decode cX11_ranked 100 = .ok (.if_icmp .gt 25, 3) := by decide +kernel
theorem dX11_ranked_103 : decode cX11_ranked 103 = .ok (.aload_n 0, 1) := by decide +kernel
theorem dX11_ranked_104 : decode cX11_ranked 104 = .ok (.getfield 76, 3) := by decide +kernel
theorem dX11_ranked_107 : decode cX11_ranked 107 = .ok (.iload 4, 2) := by decide +kernel
theorem dX11_ranked_109 : decode cX11_ranked 109 = .ok (.iaload, 1) := by decide +kernel
theorem dX11_ranked_110 : decode cX11_ranked 110 = .ok (.aload_n 0, 1) := by decide +kernel
theorem dX11_ranked_111 : decode cX11_ranked 111 = .ok (.getfield 76, 3) := by decide +kernel
theorem dX11_ranked_114 : decode cX11_ranked 114 = .ok (.iload_n 2, 1) := by decide +kernel
theorem dX11_ranked_115 : decode cX11_ranked 115 = .ok (.iaload, 1) := by decide +kernel
theorem dX11_ranked_116 : decode cX11_ranked 116 = .ok (.if_icmp .ne 12, 3) := by decide +kernel
theorem dX11_ranked_119 : decode cX11_ranked 119 = .ok (.iload 4, 2) := by decide +kernel
theorem dX11_ranked_121 : decode cX11_ranked 121 = .ok (.iload_n 2, 1) := by decide +kernel
theorem dX11_ranked_122 : decode cX11_ranked 122 = .ok (.if_icmp .ge 6, 3) := by decide +kernel
theorem dX11_ranked_125 : decode cX11_ranked 125 = .ok (.iinc 3 1, 3) := by decide +kernel
theorem dX11_ranked_128 : decode cX11_ranked 128 = .ok (.iinc 4 1, 3) := by decide +kernel
theorem dX11_ranked_131 : decode cX11_ranked 131 = .ok (.goto (-104), 3) := by decide +kernel
theorem dX11_ranked_134 : decode cX11_ranked 134 = .ok (.iload_n 3, 1) := by decide +kernel
theorem dX11_ranked_135 : decode cX11_ranked 135 = .ok (.iload_n 1, 1) := by decide +kernel
theorem dX11_ranked_136 : decode cX11_ranked 136 = .ok (.if_icmp .ne 5, 3) := by decide +kernel
theorem dX11_ranked_139 : decode cX11_ranked 139 = .ok (.iload_n 2, 1) := by decide +kernel
theorem dX11_ranked_140 : decode cX11_ranked 140 = .ok (.ireturn, 1) := by decide +kernel
theorem dX11_ranked_141 : decode cX11_ranked 141 = .ok (.iinc 2 1, 3) := by decide +kernel
theorem dX11_ranked_144 : decode cX11_ranked 144 = .ok (.goto (-142), 3) := by decide +kernel
theorem dX11_ranked_147 : decode cX11_ranked 147 = .ok (.iconst (-1), 1) := by decide +kernel
theorem dX11_ranked_148 : decode cX11_ranked 148 = .ok (.ireturn, 1) := by decide +kernel
theorem dX11_foreseenAt_0 : decode cX11_foreseenAt 0 = .ok (.aload_n 0, 1) := by decide +kernel
theorem dX11_foreseenAt_1 : decode cX11_foreseenAt 1 = .ok (.invokevirtual 174, 3) := by decide +kernel
theorem dX11_foreseenAt_4 : decode cX11_foreseenAt 4 = .ok (.istore_n 2, 1) := by decide +kernel
theorem dX11_foreseenAt_5 : decode cX11_foreseenAt 5 = .ok (.iconst 0, 1) := by decide +kernel
theorem dX11_foreseenAt_6 : decode cX11_foreseenAt 6 = .ok (.istore_n 3, 1) := by decide +kernel
theorem dX11_foreseenAt_7 : decode cX11_foreseenAt 7 = .ok (.iload_n 3, 1) := by decide +kernel
theorem dX11_foreseenAt_8 : decode cX11_foreseenAt 8 = .ok (.aload_n 0, 1) := by decide +kernel
theorem dX11_foreseenAt_9 : decode cX11_foreseenAt 9 = .ok (.getfield 191, 3) := by decide +kernel
theorem dX11_foreseenAt_12 : decode cX11_foreseenAt 12 = .ok (.if_icmp .ge 98, 3) := by decide +kernel
theorem dX11_foreseenAt_15 : decode cX11_foreseenAt 15 = .ok (.aload_n 0, 1) := by decide +kernel
theorem dX11_foreseenAt_16 : decode cX11_foreseenAt 16 = .ok (.getfield 73, 3) := by decide +kernel
theorem dX11_foreseenAt_19 : decode cX11_foreseenAt 19 = .ok (.iload_n 3, 1) := by decide +kernel
theorem dX11_foreseenAt_20 : decode cX11_foreseenAt 20 = .ok (.iaload, 1) := by decide +kernel
theorem dX11_foreseenAt_21 : decode cX11_foreseenAt 21 = .ok (.iload_n 2, 1) := by decide +kernel
theorem dX11_foreseenAt_22 : decode cX11_foreseenAt 22 = .ok (.if_icmp .le 7, 3) := by decide +kernel
theorem dX11_foreseenAt_25 : decode cX11_foreseenAt 25 = .ok (.iconst 1, 1) := by decide +kernel
theorem dX11_foreseenAt_26 : decode cX11_foreseenAt 26 = .ok (.goto 4, 3) := by decide +kernel
theorem dX11_foreseenAt_29 : decode cX11_foreseenAt 29 = .ok (.iconst 0, 1) := by decide +kernel
theorem dX11_foreseenAt_30 : decode cX11_foreseenAt 30 = .ok (.istore 4, 2) := by decide +kernel
theorem dX11_foreseenAt_32 : decode cX11_foreseenAt 32 = .ok (.iconst 0, 1) := by decide +kernel
theorem dX11_foreseenAt_33 : decode cX11_foreseenAt 33 = .ok (.istore 5, 2) := by decide +kernel
theorem dX11_foreseenAt_35 : decode cX11_foreseenAt 35 = .ok (.iload 5, 2) := by decide +kernel
theorem dX11_foreseenAt_37 : decode cX11_foreseenAt 37 = .ok (.iload_n 2, 1) := by decide +kernel
theorem dX11_foreseenAt_38 : decode cX11_foreseenAt 38 = .ok (.if_icmp .ge 50, 3) := by decide +kernel
theorem dX11_foreseenAt_41 : decode cX11_foreseenAt 41 = .ok (.iload 4, 2) := by decide +kernel
theorem dX11_foreseenAt_43 : decode cX11_foreseenAt 43 = .ok (.ifCond .eq 45, 3) := by decide +kernel
theorem dX11_foreseenAt_46 : decode cX11_foreseenAt 46 = .ok (.aload_n 0, 1) := by decide +kernel
theorem dX11_foreseenAt_47 : decode cX11_foreseenAt 47 = .ok (.getfield 70, 3) := by decide +kernel
theorem dX11_foreseenAt_50 : decode cX11_foreseenAt 50 = .ok (.bipush 12, 2) := by decide +kernel
theorem dX11_foreseenAt_52 : decode cX11_foreseenAt 52 = .ok (.iload_n 3, 1) := by decide +kernel
theorem dX11_foreseenAt_53 : decode cX11_foreseenAt 53 = .ok (.imul, 1) := by decide +kernel
theorem dX11_foreseenAt_54 : decode cX11_foreseenAt 54 = .ok (.iload 5, 2) := by decide +kernel
theorem dX11_foreseenAt_56 : decode cX11_foreseenAt 56 = .ok (.iadd, 1) := by decide +kernel
theorem dX11_foreseenAt_57 : decode cX11_foreseenAt 57 = .ok (.baload, 1) := by decide +kernel
theorem dX11_foreseenAt_58 : decode cX11_foreseenAt 58 = .ok (.aload_n 0, 1) := by decide +kernel
theorem dX11_foreseenAt_59 : decode cX11_foreseenAt 59 = .ok (.getfield 45, 3) := by decide +kernel
theorem dX11_foreseenAt_62 : decode cX11_foreseenAt 62 = .ok (.aload_n 0, 1) := by decide +kernel
theorem dX11_foreseenAt_63 : decode cX11_foreseenAt 63 = .ok (.getfield 159, 3) := by decide +kernel
theorem dX11_foreseenAt_66 : decode cX11_foreseenAt 66 = .ok (.iload_n 2, 1) := by decide +kernel
theorem dX11_foreseenAt_67 : decode cX11_foreseenAt 67 = .ok (.isub, 1) := by decide +kernel
theorem dX11_foreseenAt_68 : decode cX11_foreseenAt 68 = .ok (.iload 5, 2) := by decide +kernel
theorem dX11_foreseenAt_70 : decode cX11_foreseenAt 70 = .ok (.iadd, 1) := by decide +kernel
theorem dX11_foreseenAt_71 : decode cX11_foreseenAt 71 = .ok (.baload, 1) := by decide +kernel
theorem dX11_foreseenAt_72 : decode cX11_foreseenAt 72 = .ok (.if_icmp .ne 7, 3) := by decide +kernel
theorem dX11_foreseenAt_75 : decode cX11_foreseenAt 75 = .ok (.iconst 1, 1) := by decide +kernel
theorem dX11_foreseenAt_76 : decode cX11_foreseenAt 76 = .ok (.goto 4, 3) := by decide +kernel
theorem dX11_foreseenAt_79 : decode cX11_foreseenAt 79 = .ok (.iconst 0, 1) := by decide +kernel
theorem dX11_foreseenAt_80 : decode cX11_foreseenAt 80 = .ok (.istore 4, 2) := by decide +kernel
theorem dX11_foreseenAt_82 : decode cX11_foreseenAt 82 = .ok (.iinc 5 1, 3) := by decide +kernel
theorem dX11_foreseenAt_85 : decode cX11_foreseenAt 85 = .ok (.goto (-50), 3) := by decide +kernel
theorem dX11_foreseenAt_88 : decode cX11_foreseenAt 88 = .ok (.aload_n 0, 1) := by decide +kernel
theorem dX11_foreseenAt_89 : decode cX11_foreseenAt 89 = .ok (.getfield 79, 3) := by decide +kernel
theorem dX11_foreseenAt_92 : decode cX11_foreseenAt 92 = .ok (.iload_n 3, 1) := by decide +kernel
theorem dX11_foreseenAt_93 : decode cX11_foreseenAt 93 = .ok (.iload 4, 2) := by decide +kernel
theorem dX11_foreseenAt_95 : decode cX11_foreseenAt 95 = .ok (.ifCond .eq 7, 3) := by decide +kernel
theorem dX11_foreseenAt_98 : decode cX11_foreseenAt 98 = .ok (.iconst 0, 1) := by decide +kernel
theorem dX11_foreseenAt_99 : decode cX11_foreseenAt 99 = .ok (.goto 4, 3) := by decide +kernel
theorem dX11_foreseenAt_102 : decode cX11_foreseenAt 102 = .ok (.iconst (-1), 1) := by decide +kernel
theorem dX11_foreseenAt_103 : decode cX11_foreseenAt 103 = .ok (.iastore, 1) := by decide +kernel
theorem dX11_foreseenAt_104 : decode cX11_foreseenAt 104 = .ok (.iinc 3 1, 3) := by decide +kernel
theorem dX11_foreseenAt_107 : decode cX11_foreseenAt 107 = .ok (.goto (-100), 3) := by decide +kernel
theorem dX11_foreseenAt_110 : decode cX11_foreseenAt 110 = .ok (.aload_n 0, 1) := by decide +kernel
theorem dX11_foreseenAt_111 : decode cX11_foreseenAt 111 = .ok (.iload_n 1, 1) := by decide +kernel
theorem dX11_foreseenAt_112 : decode cX11_foreseenAt 112 = .ok (.invokevirtual 197, 3) := by decide +kernel
theorem dX11_foreseenAt_115 : decode cX11_foreseenAt 115 = .ok (.ireturn, 1) := by decide +kernel
theorem dX11_areNear_0 : decode cX11_areNear 0 = .ok (.iconst 0, 1) := by decide +kernel
theorem dX11_areNear_1 : decode cX11_areNear 1 = .ok (.istore_n 3, 1) := by decide +kernel
theorem dX11_areNear_2 : decode cX11_areNear 2 = .ok (.iload_n 3, 1) := by decide +kernel
theorem dX11_areNear_3 : decode cX11_areNear 3 = .ok (.aload_n 0, 1) := by decide +kernel
theorem dX11_areNear_4 : decode cX11_areNear 4 = .ok (.getfield 22, 3) := by decide +kernel
theorem dX11_areNear_7 : decode cX11_areNear 7 = .ok (.if_icmp .ge 103, 3) := by decide +kernel
theorem dX11_areNear_10 : decode cX11_areNear 10 = .ok (.aload_n 0, 1) := by decide +kernel
theorem dX11_areNear_11 : decode cX11_areNear 11 = .ok (.getfield 9, 3) := by decide +kernel
theorem dX11_areNear_14 : decode cX11_areNear 14 = .ok (.iload_n 3, 1) := by decide +kernel
theorem dX11_areNear_15 : decode cX11_areNear 15 = .ok (.iaload, 1) := by decide +kernel
theorem dX11_areNear_16 : decode cX11_areNear 16 = .ok (.iconst 1, 1) := by decide +kernel
theorem dX11_areNear_17 : decode cX11_areNear 17 = .ok (.if_icmp .ne 87, 3) := by decide +kernel
theorem dX11_areNear_20 : decode cX11_areNear 20 = .ok (.aload_n 0, 1) := by decide +kernel
theorem dX11_areNear_21 : decode cX11_areNear 21 = .ok (.getfield 13, 3) := by decide +kernel
theorem dX11_areNear_24 : decode cX11_areNear 24 = .ok (.iload_n 3, 1) := by decide +kernel
theorem dX11_areNear_25 : decode cX11_areNear 25 = .ok (.iaload, 1) := by decide +kernel
theorem dX11_areNear_26 : decode cX11_areNear 26 = .ok (.iload_n 1, 1) := by decide +kernel
theorem dX11_areNear_27 : decode cX11_areNear 27 = .ok (.if_icmp .eq 16, 3) := by decide +kernel
theorem dX11_areNear_30 : decode cX11_areNear 30 = .ok (.aload_n 0, 1) := by decide +kernel
theorem dX11_areNear_31 : decode cX11_areNear 31 = .ok (.getfield 13, 3) := by decide +kernel
theorem dX11_areNear_34 : decode cX11_areNear 34 = .ok (.iload_n 3, 1) := by decide +kernel
theorem dX11_areNear_35 : decode cX11_areNear 35 = .ok (.iaload, 1) := by decide +kernel
theorem dX11_areNear_36 : decode cX11_areNear 36 = .ok (.iload_n 2, 1) := by decide +kernel
theorem dX11_areNear_37 : decode cX11_areNear 37 = .ok (.if_icmp .eq 6, 3) := by decide +kernel
theorem dX11_areNear_40 : decode cX11_areNear 40 = .ok (.goto 64, 3) := by decide +kernel
theorem dX11_areNear_43 : decode cX11_areNear 43 = .ok (.aload_n 0, 1) := by decide +kernel
theorem dX11_areNear_44 : decode cX11_areNear 44 = .ok (.aload_n 0, 1) := by decide +kernel
theorem dX11_areNear_45 : decode cX11_areNear 45 = .ok (.getfield 16, 3) := by decide +kernel
theorem dX11_areNear_48 : decode cX11_areNear 48 = .ok (.iload_n 3, 1) := by decide +kernel
theorem dX11_areNear_49 : decode cX11_areNear 49 = .ok (.iaload, 1) := by decide +kernel
theorem dX11_areNear_50 : decode cX11_areNear 50 = .ok (.aload_n 0, 1) := by decide +kernel
theorem dX11_areNear_51 : decode cX11_areNear 51 = .ok (.iload_n 3, 1) := by decide +kernel
theorem dX11_areNear_52 : decode cX11_areNear 52 = .ok (.invokevirtual 135, 3) := by decide +kernel
theorem dX11_areNear_55 : decode cX11_areNear 55 = .ok (.invokevirtual 146, 3) := by decide +kernel
theorem dX11_areNear_58 : decode cX11_areNear 58 = .ok (.istore 4, 2) := by decide +kernel
theorem dX11_areNear_60 : decode cX11_areNear 60 = .ok (.iload 4, 2) := by decide +kernel
theorem dX11_areNear_62 : decode cX11_areNear 62 = .ok (.iconst (-1), 1) := by decide +kernel
theorem dX11_areNear_63 : decode cX11_areNear 63 = .ok (.if_icmp .eq 41, 3) := by decide +kernel
theorem dX11_areNear_66 : decode cX11_areNear 66 = .ok (.aload_n 0, 1) := by decide +kernel
theorem dX11_areNear_67 : decode cX11_areNear 67 = .ok (.getfield 9, 3) := by decide +kernel
theorem dX11_areNear_70 : decode cX11_areNear 70 = .ok (.iload 4, 2) := by decide +kernel
theorem dX11_areNear_72 : decode cX11_areNear 72 = .ok (.iaload, 1) := by decide +kernel
theorem dX11_areNear_73 : decode cX11_areNear 73 = .ok (.iconst 1, 1) := by decide +kernel
theorem dX11_areNear_74 : decode cX11_areNear 74 = .ok (.if_icmp .ne 30, 3) := by decide +kernel
theorem dX11_areNear_77 : decode cX11_areNear 77 = .ok (.aload_n 0, 1) := by decide +kernel
theorem dX11_areNear_78 : decode cX11_areNear 78 = .ok (.getfield 13, 3) := by decide +kernel
theorem dX11_areNear_81 : decode cX11_areNear 81 = .ok (.iload 4, 2) := by decide +kernel
theorem dX11_areNear_83 : decode cX11_areNear 83 = .ok (.iaload, 1) := by decide +kernel
theorem dX11_areNear_84 : decode cX11_areNear 84 = .ok (.aload_n 0, 1) := by decide +kernel
theorem dX11_areNear_85 : decode cX11_areNear 85 = .ok (.getfield 13, 3) := by decide +kernel
theorem dX11_areNear_88 : decode cX11_areNear 88 = .ok (.iload_n 3, 1) := by decide +kernel
theorem dX11_areNear_89 : decode cX11_areNear 89 = .ok (.iaload, 1) := by decide +kernel
theorem dX11_areNear_90 : decode cX11_areNear 90 = .ok (.iload_n 1, 1) := by decide +kernel
theorem dX11_areNear_91 : decode cX11_areNear 91 = .ok (.if_icmp .ne 7, 3) := by decide +kernel
theorem dX11_areNear_94 : decode cX11_areNear 94 = .ok (.iload_n 2, 1) := by decide +kernel
theorem dX11_areNear_95 : decode cX11_areNear 95 = .ok (.goto 4, 3) := by decide +kernel
theorem dX11_areNear_98 : decode cX11_areNear 98 = .ok (.iload_n 1, 1) := by decide +kernel
theorem dX11_areNear_99 : decode cX11_areNear 99 = .ok (.if_icmp .ne 5, 3) := by decide +kernel
theorem dX11_areNear_102 : decode cX11_areNear 102 = .ok (.iconst 1, 1) := by decide +kernel
theorem dX11_areNear_103 : decode cX11_areNear 103 = .ok (.ireturn, 1) := by decide +kernel
theorem dX11_areNear_104 : decode cX11_areNear 104 = .ok (.iinc 3 1, 3) := by decide +kernel
theorem dX11_areNear_107 : decode cX11_areNear 107 = .ok (.goto (-105), 3) := by decide +kernel
theorem dX11_areNear_110 : decode cX11_areNear 110 = .ok (.iconst 0, 1) := by decide +kernel
theorem dX11_areNear_111 : decode cX11_areNear 111 = .ok (.ireturn, 1) := by decide +kernel
theorem dX11_near_0 : decode cX11_near 0 = .ok (.aload_n 0, 1) := by decide +kernel
theorem dX11_near_1 : decode cX11_near 1 = .ok (.iconst 0, 1) := by decide +kernel
theorem dX11_near_2 : decode cX11_near 2 = .ok (.putfield 98, 3) := by decide +kernel
theorem dX11_near_5 : decode cX11_near 5 = .ok (.iload_n 1, 1) := by decide +kernel
theorem dX11_near_6 : decode cX11_near 6 = .ok (.invokestatic 124, 3) := by decide +kernel
theorem dX11_near_9 : decode cX11_near 9 = .ok (.ifCond .eq 27, 3) := by decide +kernel
theorem dX11_near_12 : decode cX11_near 12 = .ok (.iload_n 2, 1) := by decide +kernel
theorem dX11_near_13 : decode cX11_near 13 = .ok (.invokestatic 124, 3) := by decide +kernel
theorem dX11_near_16 : decode cX11_near 16 = .ok (.ifCond .eq 20, 3) := by decide +kernel
theorem dX11_near_19 : decode cX11_near 19 = .ok (.aload_n 0, 1) := by decide +kernel
theorem dX11_near_20 : decode cX11_near 20 = .ok (.iload_n 1, 1) := by decide +kernel
theorem dX11_near_21 : decode cX11_near 21 = .ok (.iload_n 2, 1) := by decide +kernel
theorem dX11_near_22 : decode cX11_near 22 = .ok (.invokevirtual 200, 3) := by decide +kernel
theorem dX11_near_25 : decode cX11_near 25 = .ok (.ifCond .eq 7, 3) := by decide +kernel
theorem dX11_near_28 : decode cX11_near 28 = .ok (.iconst 1, 1) := by decide +kernel
theorem dX11_near_29 : decode cX11_near 29 = .ok (.goto 8, 3) := by decide +kernel
theorem dX11_near_32 : decode cX11_near 32 = .ok (.iconst 0, 1) := by decide +kernel
theorem dX11_near_33 : decode cX11_near 33 = .ok (.goto 4, 3) := by decide +kernel
theorem dX11_near_36 : decode cX11_near 36 = .ok (.iconst (-1), 1) := by decide +kernel
theorem dX11_near_37 : decode cX11_near 37 = .ok (.ireturn, 1) := by decide +kernel
theorem dX11_offeredAt_0 : decode cX11_offeredAt 0 = .ok (.aload_n 0, 1) := by decide +kernel
theorem dX11_offeredAt_1 : decode cX11_offeredAt 1 = .ok (.invokevirtual 174, 3) := by decide +kernel
theorem dX11_offeredAt_4 : decode cX11_offeredAt 4 = .ok (.istore_n 2, 1) := by decide +kernel
theorem dX11_offeredAt_5 : decode cX11_offeredAt 5 = .ok (.iload_n 2, 1) := by decide +kernel
theorem dX11_offeredAt_6 : decode cX11_offeredAt 6 = .ok (.ifCond .ne 7, 3) := by decide +kernel
theorem dX11_offeredAt_9 : decode cX11_offeredAt 9 = .ok (.iconst 1, 1) := by decide +kernel
theorem dX11_offeredAt_10 : decode cX11_offeredAt 10 = .ok (.goto 4, 3) := by decide +kernel
theorem dX11_offeredAt_13 : decode cX11_offeredAt 13 = .ok (.iconst 0, 1) := by decide +kernel
theorem dX11_offeredAt_14 : decode cX11_offeredAt 14 = .ok (.istore_n 3, 1) := by decide +kernel
theorem dX11_offeredAt_15 : decode cX11_offeredAt 15 = .ok (.iconst 0, 1) := by decide +kernel
theorem dX11_offeredAt_16 : decode cX11_offeredAt 16 = .ok (.istore 4, 2) := by decide +kernel
theorem dX11_offeredAt_18 : decode cX11_offeredAt 18 = .ok (.iload 4, 2) := by decide +kernel
theorem dX11_offeredAt_20 : decode cX11_offeredAt 20 = .ok (.aload_n 0, 1) := by decide +kernel
theorem dX11_offeredAt_21 : decode cX11_offeredAt 21 = .ok (.getfield 191, 3) := by decide +kernel
theorem dX11_offeredAt_24 : decode cX11_offeredAt 24 = .ok (.if_icmp .ge 154, 3) := by decide +kernel
theorem dX11_offeredAt_27 : decode cX11_offeredAt 27 = .ok (.aload_n 0, 1) := by decide +kernel
theorem dX11_offeredAt_28 : decode cX11_offeredAt 28 = .ok (.getfield 79, 3) := by decide +kernel
theorem dX11_offeredAt_31 : decode cX11_offeredAt 31 = .ok (.iload 4, 2) := by decide +kernel
theorem dX11_offeredAt_33 : decode cX11_offeredAt 33 = .ok (.iconst (-1), 1) := by decide +kernel
theorem dX11_offeredAt_34 : decode cX11_offeredAt 34 = .ok (.iastore, 1) := by decide +kernel
theorem dX11_offeredAt_35 : decode cX11_offeredAt 35 = .ok (.aload_n 0, 1) := by decide +kernel
theorem dX11_offeredAt_36 : decode cX11_offeredAt 36 = .ok (.getfield 73, 3) := by decide +kernel
theorem dX11_offeredAt_39 : decode cX11_offeredAt 39 = .ok (.iload 4, 2) := by decide +kernel
theorem dX11_offeredAt_41 : decode cX11_offeredAt 41 = .ok (.iaload, 1) := by decide +kernel
theorem dX11_offeredAt_42 : decode cX11_offeredAt 42 = .ok (.iload_n 2, 1) := by decide +kernel
theorem dX11_offeredAt_43 : decode cX11_offeredAt 43 = .ok (.if_icmp .eq 6, 3) := by decide +kernel
theorem dX11_offeredAt_46 : decode cX11_offeredAt 46 = .ok (.goto 126, 3) := by decide +kernel
theorem dX11_offeredAt_49 : decode cX11_offeredAt 49 = .ok (.iconst 0, 1) := by decide +kernel
theorem dX11_offeredAt_50 : decode cX11_offeredAt 50 = .ok (.istore 5, 2) := by decide +kernel
theorem dX11_offeredAt_52 : decode cX11_offeredAt 52 = .ok (.iconst 1, 1) := by decide +kernel
theorem dX11_offeredAt_53 : decode cX11_offeredAt 53 = .ok (.istore 6, 2) := by decide +kernel
theorem dX11_offeredAt_55 : decode cX11_offeredAt 55 = .ok (.iconst 0, 1) := by decide +kernel
theorem dX11_offeredAt_56 : decode cX11_offeredAt 56 = .ok (.istore 7, 2) := by decide +kernel
theorem dX11_offeredAt_58 : decode cX11_offeredAt 58 = .ok (.iload 7, 2) := by decide +kernel
theorem dX11_offeredAt_60 : decode cX11_offeredAt 60 = .ok (.iload_n 2, 1) := by decide +kernel
theorem dX11_offeredAt_61 : decode cX11_offeredAt 61 = .ok (.if_icmp .ge 76, 3) := by decide +kernel
theorem dX11_offeredAt_64 : decode cX11_offeredAt 64 = .ok (.aload_n 0, 1) := by decide +kernel
theorem dX11_offeredAt_65 : decode cX11_offeredAt 65 = .ok (.getfield 70, 3) := by decide +kernel
theorem dX11_offeredAt_68 : decode cX11_offeredAt 68 = .ok (.bipush 12, 2) := by decide +kernel
theorem dX11_offeredAt_70 : decode cX11_offeredAt 70 = .ok (.iload 4, 2) := by decide +kernel
theorem dX11_offeredAt_72 : decode cX11_offeredAt 72 = .ok (.imul, 1) := by decide +kernel
theorem dX11_offeredAt_73 : decode cX11_offeredAt 73 = .ok (.iload 7, 2) := by decide +kernel
theorem dX11_offeredAt_75 : decode cX11_offeredAt 75 = .ok (.iadd, 1) := by decide +kernel
theorem dX11_offeredAt_76 : decode cX11_offeredAt 76 = .ok (.baload, 1) := by decide +kernel
theorem dX11_offeredAt_77 : decode cX11_offeredAt 77 = .ok (.istore 8, 2) := by decide +kernel
theorem dX11_offeredAt_79 : decode cX11_offeredAt 79 = .ok (.aload_n 0, 1) := by decide +kernel
theorem dX11_offeredAt_80 : decode cX11_offeredAt 80 = .ok (.getfield 45, 3) := by decide +kernel
theorem dX11_offeredAt_83 : decode cX11_offeredAt 83 = .ok (.aload_n 0, 1) := by decide +kernel
theorem dX11_offeredAt_84 : decode cX11_offeredAt 84 = .ok (.getfield 159, 3) := by decide +kernel
theorem dX11_offeredAt_87 : decode cX11_offeredAt 87 = .ok (.iload_n 2, 1) := by decide +kernel
theorem dX11_offeredAt_88 : decode cX11_offeredAt 88 = .ok (.isub, 1) := by decide +kernel
theorem dX11_offeredAt_89 : decode cX11_offeredAt 89 = .ok (.iload 7, 2) := by decide +kernel
theorem dX11_offeredAt_91 : decode cX11_offeredAt 91 = .ok (.iadd, 1) := by decide +kernel
theorem dX11_offeredAt_92 : decode cX11_offeredAt 92 = .ok (.baload, 1) := by decide +kernel
theorem dX11_offeredAt_93 : decode cX11_offeredAt 93 = .ok (.istore 9, 2) := by decide +kernel
theorem dX11_offeredAt_95 : decode cX11_offeredAt 95 = .ok (.iload 8, 2) := by decide +kernel
theorem dX11_offeredAt_97 : decode cX11_offeredAt 97 = .ok (.iload 9, 2) := by decide +kernel
theorem dX11_offeredAt_99 : decode cX11_offeredAt 99 = .ok (.if_icmp .ne 6, 3) := by decide +kernel
theorem dX11_offeredAt_102 : decode cX11_offeredAt 102 = .ok (.goto 29, 3) := by decide +kernel
theorem dX11_offeredAt_105 : decode cX11_offeredAt 105 = .ok (.iinc 5 1, 3) := by decide +kernel
theorem dX11_offeredAt_108 : decode cX11_offeredAt 108 = .ok (.iload 6, 2) := by decide +kernel
theorem dX11_offeredAt_110 : decode cX11_offeredAt 110 = .ok (.ifCond .eq 18, 3) := by decide +kernel
theorem dX11_offeredAt_113 : decode cX11_offeredAt 113 = .ok (.aload_n 0, 1) := by decide +kernel
theorem dX11_offeredAt_114 : decode cX11_offeredAt 114 = .ok (.iload 8, 2) := by decide +kernel
theorem dX11_offeredAt_116 : decode cX11_offeredAt 116 = .ok (.iload 9, 2) := by decide +kernel
theorem dX11_offeredAt_118 : decode cX11_offeredAt 118 = .ok (.invokevirtual 200, 3) := by decide +kernel
theorem dX11_offeredAt_121 : decode cX11_offeredAt 121 = .ok (.ifCond .eq 7, 3) := by decide +kernel
theorem dX11_offeredAt_124 : decode cX11_offeredAt 124 = .ok (.iconst 1, 1) := by decide +kernel
theorem dX11_offeredAt_125 : decode cX11_offeredAt 125 = .ok (.goto 4, 3) := by decide +kernel
theorem dX11_offeredAt_128 : decode cX11_offeredAt 128 = .ok (.iconst 0, 1) := by decide +kernel
theorem dX11_offeredAt_129 : decode cX11_offeredAt 129 = .ok (.istore 6, 2) := by decide +kernel
theorem dX11_offeredAt_131 : decode cX11_offeredAt 131 = .ok (.iinc 7 1, 3) := by decide +kernel
theorem dX11_offeredAt_134 : decode cX11_offeredAt 134 = .ok (.goto (-76), 3) := by decide +kernel
theorem dX11_offeredAt_137 : decode cX11_offeredAt 137 = .ok (.iload_n 3, 1) := by decide +kernel
theorem dX11_offeredAt_138 : decode cX11_offeredAt 138 = .ok (.ifCond .ne 8, 3) := by decide +kernel
theorem dX11_offeredAt_141 : decode cX11_offeredAt 141 = .ok (.iload 5, 2) := by decide +kernel
theorem dX11_offeredAt_143 : decode cX11_offeredAt 143 = .ok (.ifCond .ne 7, 3) := by decide +kernel
theorem dX11_offeredAt_146 : decode cX11_offeredAt 146 = .ok (.iconst 1, 1) := by decide +kernel
theorem dX11_offeredAt_147 : decode cX11_offeredAt 147 = .ok (.goto 4, 3) := by decide +kernel
theorem dX11_offeredAt_150 : decode cX11_offeredAt 150 = .ok (.iconst 0, 1) := by decide +kernel
theorem dX11_offeredAt_151 : decode cX11_offeredAt 151 = .ok (.istore_n 3, 1) := by decide +kernel
theorem dX11_offeredAt_152 : decode cX11_offeredAt 152 = .ok (.iload 6, 2) := by decide +kernel
theorem dX11_offeredAt_154 : decode cX11_offeredAt 154 = .ok (.ifCond .eq 18, 3) := by decide +kernel
theorem dX11_offeredAt_157 : decode cX11_offeredAt 157 = .ok (.iload 5, 2) := by decide +kernel
theorem dX11_offeredAt_159 : decode cX11_offeredAt 159 = .ok (.iconst 2, 1) := by decide +kernel
theorem dX11_offeredAt_160 : decode cX11_offeredAt 160 = .ok (.if_icmp .gt 12, 3) := by decide +kernel
theorem dX11_offeredAt_163 : decode cX11_offeredAt 163 = .ok (.aload_n 0, 1) := by decide +kernel
theorem dX11_offeredAt_164 : decode cX11_offeredAt 164 = .ok (.getfield 79, 3) := by decide +kernel
theorem dX11_offeredAt_167 : decode cX11_offeredAt 167 = .ok (.iload 4, 2) := by decide +kernel
theorem dX11_offeredAt_169 : decode cX11_offeredAt 169 = .ok (.iload 5, 2) := by decide +kernel
theorem dX11_offeredAt_171 : decode cX11_offeredAt 171 = .ok (.iastore, 1) := by decide +kernel
theorem dX11_offeredAt_172 : decode cX11_offeredAt 172 = .ok (.iinc 4 1, 3) := by decide +kernel
theorem dX11_offeredAt_175 : decode cX11_offeredAt 175 = .ok (.goto (-157), 3) := by decide +kernel
theorem dX11_offeredAt_178 : decode cX11_offeredAt 178 = .ok (.iload_n 3, 1) := by decide +kernel
theorem dX11_offeredAt_179 : decode cX11_offeredAt 179 = .ok (.ifCond .eq 7, 3) := by decide +kernel
theorem dX11_offeredAt_182 : decode cX11_offeredAt 182 = .ok (.iconst (-1), 1) := by decide +kernel
theorem dX11_offeredAt_183 : decode cX11_offeredAt 183 = .ok (.goto 8, 3) := by decide +kernel
theorem dX11_offeredAt_186 : decode cX11_offeredAt 186 = .ok (.aload_n 0, 1) := by decide +kernel
theorem dX11_offeredAt_187 : decode cX11_offeredAt 187 = .ok (.iload_n 1, 1) := by decide +kernel
theorem dX11_offeredAt_188 : decode cX11_offeredAt 188 = .ok (.invokevirtual 197, 3) := by decide +kernel
theorem dX11_offeredAt_191 : decode cX11_offeredAt 191 = .ok (.ireturn, 1) := by decide +kernel
theorem dX11_foreseen_0 : decode cX11_foreseen 0 = .ok (.aload_n 0, 1) := by decide +kernel
theorem dX11_foreseen_1 : decode cX11_foreseen 1 = .ok (.iconst 0, 1) := by decide +kernel
theorem dX11_foreseen_2 : decode cX11_foreseen 2 = .ok (.putfield 98, 3) := by decide +kernel
theorem dX11_foreseen_5 : decode cX11_foreseen 5 = .ok (.iload_n 1, 1) := by decide +kernel
theorem dX11_foreseen_6 : decode cX11_foreseen 6 = .ok (.ifCond .ge 7, 3) := by decide +kernel
theorem dX11_foreseen_9 : decode cX11_foreseen 9 = .ok (.iconst (-1), 1) := by decide +kernel
theorem dX11_foreseen_10 : decode cX11_foreseen 10 = .ok (.goto 8, 3) := by decide +kernel
theorem dX11_foreseen_13 : decode cX11_foreseen 13 = .ok (.aload_n 0, 1) := by decide +kernel
theorem dX11_foreseen_14 : decode cX11_foreseen 14 = .ok (.iload_n 1, 1) := by decide +kernel
theorem dX11_foreseen_15 : decode cX11_foreseen 15 = .ok (.invokevirtual 171, 3) := by decide +kernel
theorem dX11_foreseen_18 : decode cX11_foreseen 18 = .ok (.ireturn, 1) := by decide +kernel
theorem dX11_offered_0 : decode cX11_offered 0 = .ok (.aload_n 0, 1) := by decide +kernel
theorem dX11_offered_1 : decode cX11_offered 1 = .ok (.iconst 0, 1) := by decide +kernel
theorem dX11_offered_2 : decode cX11_offered 2 = .ok (.putfield 98, 3) := by decide +kernel
theorem dX11_offered_5 : decode cX11_offered 5 = .ok (.iload_n 1, 1) := by decide +kernel
theorem dX11_offered_6 : decode cX11_offered 6 = .ok (.ifCond .ge 7, 3) := by decide +kernel
theorem dX11_offered_9 : decode cX11_offered 9 = .ok (.iconst (-1), 1) := by decide +kernel
theorem dX11_offered_10 : decode cX11_offered 10 = .ok (.goto 8, 3) := by decide +kernel
theorem dX11_offered_13 : decode cX11_offered 13 = .ok (.aload_n 0, 1) := by decide +kernel
theorem dX11_offered_14 : decode cX11_offered 14 = .ok (.iload_n 1, 1) := by decide +kernel
theorem dX11_offered_15 : decode cX11_offered 15 = .ok (.invokevirtual 178, 3) := by decide +kernel
theorem dX11_offered_18 : decode cX11_offered 18 = .ok (.ireturn, 1) := by decide +kernel
theorem dX11_share_0 : decode cX11_share 0 = .ok (.aload_n 0, 1) := by decide +kernel
theorem dX11_share_1 : decode cX11_share 1 = .ok (.iconst 0, 1) := by decide +kernel
theorem dX11_share_2 : decode cX11_share 2 = .ok (.putfield 98, 3) := by decide +kernel
theorem dX11_share_5 : decode cX11_share 5 = .ok (.iload_n 1, 1) := by decide +kernel
theorem dX11_share_6 : decode cX11_share 6 = .ok (.invokestatic 124, 3) := by decide +kernel
theorem dX11_share_9 : decode cX11_share 9 = .ok (.ifCond .eq 14, 3) := by decide +kernel
theorem dX11_share_12 : decode cX11_share 12 = .ok (.iload_n 2, 1) := by decide +kernel
theorem dX11_share_13 : decode cX11_share 13 = .ok (.iconst 0, 1) := by decide +kernel
theorem dX11_share_14 : decode cX11_share 14 = .ok (.sipush 1000, 3) := by decide +kernel
theorem dX11_share_17 : decode cX11_share 17 = .ok (.invokestatic 120, 3) := by decide +kernel
theorem dX11_share_20 : decode cX11_share 20 = .ok (.ifCond .ne 5, 3) := by decide +kernel
theorem dX11_share_23 : decode cX11_share 23 = .ok (.iconst 0, 1) := by decide +kernel
theorem dX11_share_24 : decode cX11_share 24 = .ok (.ireturn, 1) := by decide +kernel
theorem dX11_share_25 : decode cX11_share 25 = .ok (.aload_n 0, 1) := by decide +kernel
theorem dX11_share_26 : decode cX11_share 26 = .ok (.getfield 82, 3) := by decide +kernel
theorem dX11_share_29 : decode cX11_share 29 = .ok (.iload_n 1, 1) := by decide +kernel
theorem dX11_share_30 : decode cX11_share 30 = .ok (.bipush 97, 2) := by decide +kernel
theorem dX11_share_32 : decode cX11_share 32 = .ok (.isub, 1) := by decide +kernel
theorem dX11_share_33 : decode cX11_share 33 = .ok (.iload_n 2, 1) := by decide +kernel
theorem dX11_share_34 : decode cX11_share 34 = .ok (.iastore, 1) := by decide +kernel
theorem dX11_share_35 : decode cX11_share 35 = .ok (.iconst 1, 1) := by decide +kernel
theorem dX11_share_36 : decode cX11_share 36 = .ok (.ireturn, 1) := by decide +kernel
theorem dX11_costOf_0 : decode cX11_costOf 0 = .ok (.iconst 0, 1) := by decide +kernel
theorem dX11_costOf_1 : decode cX11_costOf 1 = .ok (.istore_n 2, 1) := by decide +kernel
theorem dX11_costOf_2 : decode cX11_costOf 2 = .ok (.iload_n 1, 1) := by decide +kernel
theorem dX11_costOf_3 : decode cX11_costOf 3 = .ok (.istore_n 3, 1) := by decide +kernel
theorem dX11_costOf_4 : decode cX11_costOf 4 = .ok (.iload_n 3, 1) := by decide +kernel
theorem dX11_costOf_5 : decode cX11_costOf 5 = .ok (.ifCond .eq 35, 3) := by decide +kernel
theorem dX11_costOf_8 : decode cX11_costOf 8 = .ok (.iload_n 2, 1) := by decide +kernel
theorem dX11_costOf_9 : decode cX11_costOf 9 = .ok (.aload_n 0, 1) := by decide +kernel
theorem dX11_costOf_10 : decode cX11_costOf 10 = .ok (.getfield 19, 3) := by decide +kernel
theorem dX11_costOf_13 : decode cX11_costOf 13 = .ok (.iconst 0, 1) := by decide +kernel
theorem dX11_costOf_14 : decode cX11_costOf 14 = .ok (.iaload, 1) := by decide +kernel
theorem dX11_costOf_15 : decode cX11_costOf 15 = .ok (.aload_n 0, 1) := by decide +kernel
theorem dX11_costOf_16 : decode cX11_costOf 16 = .ok (.iload_n 3, 1) := by decide +kernel
theorem dX11_costOf_17 : decode cX11_costOf 17 = .ok (.invokevirtual 135, 3) := by decide +kernel
theorem dX11_costOf_20 : decode cX11_costOf 20 = .ok (.imul, 1) := by decide +kernel
theorem dX11_costOf_21 : decode cX11_costOf 21 = .ok (.aload_n 0, 1) := by decide +kernel
theorem dX11_costOf_22 : decode cX11_costOf 22 = .ok (.getfield 19, 3) := by decide +kernel
theorem dX11_costOf_25 : decode cX11_costOf 25 = .ok (.iconst 4, 1) := by decide +kernel
theorem dX11_costOf_26 : decode cX11_costOf 26 = .ok (.iaload, 1) := by decide +kernel
theorem dX11_costOf_27 : decode cX11_costOf 27 = .ok (.iadd, 1) := by decide +kernel
theorem dX11_costOf_28 : decode cX11_costOf 28 = .ok (.iadd, 1) := by decide +kernel
theorem dX11_costOf_29 : decode cX11_costOf 29 = .ok (.istore_n 2, 1) := by decide +kernel
theorem dX11_costOf_30 : decode cX11_costOf 30 = .ok (.aload_n 0, 1) := by decide +kernel
theorem dX11_costOf_31 : decode cX11_costOf 31 = .ok (.getfield 16, 3) := by decide +kernel
theorem dX11_costOf_34 : decode cX11_costOf 34 = .ok (.iload_n 3, 1) := by decide +kernel
theorem dX11_costOf_35 : decode cX11_costOf 35 = .ok (.iaload, 1) := by decide +kernel
theorem dX11_costOf_36 : decode cX11_costOf 36 = .ok (.istore_n 3, 1) := by decide +kernel
theorem dX11_costOf_37 : decode cX11_costOf 37 = .ok (.goto (-33), 3) := by decide +kernel
theorem dX11_costOf_40 : decode cX11_costOf 40 = .ok (.iload_n 2, 1) := by decide +kernel
theorem dX11_costOf_41 : decode cX11_costOf 41 = .ok (.ireturn, 1) := by decide +kernel
theorem dX11_cost_0 : decode cX11_cost 0 = .ok (.aload_n 0, 1) := by decide +kernel
theorem dX11_cost_1 : decode cX11_cost 1 = .ok (.iconst 0, 1) := by decide +kernel
theorem dX11_cost_2 : decode cX11_cost 2 = .ok (.putfield 98, 3) := by decide +kernel
theorem dX11_cost_5 : decode cX11_cost 5 = .ok (.aload_n 0, 1) := by decide +kernel
theorem dX11_cost_6 : decode cX11_cost 6 = .ok (.iload_n 1, 1) := by decide +kernel
theorem dX11_cost_7 : decode cX11_cost 7 = .ok (.invokevirtual 116, 3) := by decide +kernel
theorem dX11_cost_10 : decode cX11_cost 10 = .ok (.ifCond .eq 23, 3) := by decide +kernel
theorem dX11_cost_13 : decode cX11_cost 13 = .ok (.iload_n 1, 1) := by decide +kernel
theorem dX11_cost_14 : decode cX11_cost 14 = .ok (.ifCond .eq 19, 3) := by decide +kernel
theorem dX11_cost_17 : decode cX11_cost 17 = .ok (.aload_n 0, 1) := by decide +kernel
theorem dX11_cost_18 : decode cX11_cost 18 = .ok (.iload_n 1, 1) := by decide +kernel
theorem dX11_cost_19 : decode cX11_cost 19 = .ok (.invokevirtual 204, 3) := by decide +kernel
theorem dX11_cost_22 : decode cX11_cost 22 = .ok (.ifCond .eq 11, 3) := by decide +kernel
theorem dX11_cost_25 : decode cX11_cost 25 = .ok (.aload_n 0, 1) := by decide +kernel
theorem dX11_cost_26 : decode cX11_cost 26 = .ok (.iload_n 1, 1) := by decide +kernel
theorem dX11_cost_27 : decode cX11_cost 27 = .ok (.invokevirtual 207, 3) := by decide +kernel
theorem dX11_cost_30 : decode cX11_cost 30 = .ok (.goto 4, 3) := by decide +kernel
theorem dX11_cost_33 : decode cX11_cost 33 = .ok (.iconst (-1), 1) := by decide +kernel
theorem dX11_cost_34 : decode cX11_cost 34 = .ok (.ireturn, 1) := by decide +kernel
theorem dX11_mean_0 : decode cX11_mean 0 = .ok (.aload_n 0, 1) := by decide +kernel
theorem dX11_mean_1 : decode cX11_mean 1 = .ok (.iconst 0, 1) := by decide +kernel
theorem dX11_mean_2 : decode cX11_mean 2 = .ok (.putfield 98, 3) := by decide +kernel
theorem dX11_mean_5 : decode cX11_mean 5 = .ok (.iload_n 1, 1) := by decide +kernel
theorem dX11_mean_6 : decode cX11_mean 6 = .ok (.iconst 0, 1) := by decide +kernel
theorem dX11_mean_7 : decode cX11_mean 7 = .ok (.iconst 1, 1) := by decide +kernel
theorem dX11_mean_8 : decode cX11_mean 8 = .ok (.invokestatic 120, 3) := by decide +kernel
theorem dX11_mean_11 : decode cX11_mean 11 = .ok (.ifCond .ne 7, 3) := by decide +kernel
theorem dX11_mean_14 : decode cX11_mean 14 = .ok (.ldc2_w 210, 3) := by decide +kernel
theorem dX11_mean_17 : decode cX11_mean 17 = .ok (.lreturn, 1) := by decide +kernel
theorem dX11_mean_18 : decode cX11_mean 18 = .ok (.lconst 0, 1) := by decide +kernel
theorem dX11_mean_19 : decode cX11_mean 19 = .ok (.lstore_n 2, 1) := by decide +kernel
theorem dX11_mean_20 : decode cX11_mean 20 = .ok (.lconst 0, 1) := by decide +kernel
theorem dX11_mean_21 : decode cX11_mean 21 = .ok (.lstore 4, 2) := by decide +kernel
theorem dX11_mean_23 : decode cX11_mean 23 = .ok (.iconst 0, 1) := by decide +kernel
theorem dX11_mean_24 : decode cX11_mean 24 = .ok (.istore 6, 2) := by decide +kernel
theorem dX11_mean_26 : decode cX11_mean 26 = .ok (.iload 6, 2) := by decide +kernel
theorem dX11_mean_28 : decode cX11_mean 28 = .ok (.bipush 26, 2) := by decide +kernel
theorem dX11_mean_30 : decode cX11_mean 30 = .ok (.if_icmp .ge 132, 3) := by decide +kernel
theorem dX11_mean_33 : decode cX11_mean 33 = .ok (.aload_n 0, 1) := by decide +kernel
theorem dX11_mean_34 : decode cX11_mean 34 = .ok (.getfield 82, 3) := by decide +kernel
theorem dX11_mean_37 : decode cX11_mean 37 = .ok (.iload 6, 2) := by decide +kernel
theorem dX11_mean_39 : decode cX11_mean 39 = .ok (.iaload, 1) := by decide +kernel
theorem dX11_mean_40 : decode cX11_mean 40 = .ok (.ifCond .ne 6, 3) := by decide +kernel
theorem dX11_mean_43 : decode cX11_mean 43 = .ok (.goto 113, 3) := by decide +kernel
theorem dX11_mean_46 : decode cX11_mean 46 = .ok (.iconst (-1), 1) := by decide +kernel
theorem dX11_mean_47 : decode cX11_mean 47 = .ok (.istore 7, 2) := by decide +kernel
theorem dX11_mean_49 : decode cX11_mean 49 = .ok (.iconst 0, 1) := by decide +kernel
theorem dX11_mean_50 : decode cX11_mean 50 = .ok (.istore 8, 2) := by decide +kernel
theorem dX11_mean_52 : decode cX11_mean 52 = .ok (.iload 8, 2) := by decide +kernel
theorem dX11_mean_54 : decode cX11_mean 54 = .ok (.aload_n 0, 1) := by decide +kernel
theorem dX11_mean_55 : decode cX11_mean 55 = .ok (.getfield 22, 3) := by decide +kernel
theorem dX11_mean_58 : decode cX11_mean 58 = .ok (.if_icmp .ge 60, 3) := by decide +kernel
theorem dX11_mean_61 : decode cX11_mean 61 = .ok (.aload_n 0, 1) := by decide +kernel
theorem dX11_mean_62 : decode cX11_mean 62 = .ok (.getfield 9, 3) := by decide +kernel
theorem dX11_mean_65 : decode cX11_mean 65 = .ok (.iload 8, 2) := by decide +kernel
theorem dX11_mean_67 : decode cX11_mean 67 = .ok (.iaload, 1) := by decide +kernel
theorem dX11_mean_68 : decode cX11_mean 68 = .ok (.iconst 1, 1) := by decide +kernel
theorem dX11_mean_69 : decode cX11_mean 69 = .ok (.if_icmp .ne 43, 3) := by decide +kernel
theorem dX11_mean_72 : decode cX11_mean 72 = .ok (.aload_n 0, 1) := by decide +kernel
theorem dX11_mean_73 : decode cX11_mean 73 = .ok (.getfield 13, 3) := by decide +kernel
theorem dX11_mean_76 : decode cX11_mean 76 = .ok (.iload 8, 2) := by decide +kernel
theorem dX11_mean_78 : decode cX11_mean 78 = .ok (.iaload, 1) := by decide +kernel
theorem dX11_mean_79 : decode cX11_mean 79 = .ok (.bipush 97, 2) := by decide +kernel
theorem dX11_mean_81 : decode cX11_mean 81 = .ok (.iload 6, 2) := by decide +kernel
theorem dX11_mean_83 : decode cX11_mean 83 = .ok (.iadd, 1) := by decide +kernel
theorem dX11_mean_84 : decode cX11_mean 84 = .ok (.if_icmp .ne 28, 3) := by decide +kernel
theorem dX11_mean_87 : decode cX11_mean 87 = .ok (.iload 7, 2) := by decide +kernel
theorem dX11_mean_89 : decode cX11_mean 89 = .ok (.iconst (-1), 1) := by decide +kernel
theorem dX11_mean_90 : decode cX11_mean 90 = .ok (.if_icmp .eq 14, 3) := by decide +kernel
theorem dX11_mean_93 : decode cX11_mean 93 = .ok (.aload_n 0, 1) := by decide +kernel
theorem dX11_mean_94 : decode cX11_mean 94 = .ok (.iload 8, 2) := by decide +kernel
theorem dX11_mean_96 : decode cX11_mean 96 = .ok (.invokevirtual 207, 3) := by decide +kernel
theorem dX11_mean_99 : decode cX11_mean 99 = .ok (.iload 7, 2) := by decide +kernel
theorem dX11_mean_101 : decode cX11_mean 101 = .ok (.if_icmp .ge 11, 3) := by decide +kernel
theorem dX11_mean_104 : decode cX11_mean 104 = .ok (.aload_n 0, 1) := by decide +kernel
theorem dX11_mean_105 : decode cX11_mean 105 = .ok (.iload 8, 2) := by decide +kernel
theorem dX11_mean_107 : decode cX11_mean 107 = .ok (.invokevirtual 207, 3) := by decide +kernel
theorem dX11_mean_110 : decode cX11_mean 110 = .ok (.istore 7, 2) := by decide +kernel
theorem dX11_mean_112 : decode cX11_mean 112 = .ok (.iinc 8 1, 3) := by decide +kernel
theorem dX11_mean_115 : decode cX11_mean 115 = .ok (.goto (-63), 3) := by decide +kernel
theorem dX11_mean_118 : decode cX11_mean 118 = .ok (.iload 7, 2) := by decide +kernel
theorem dX11_mean_120 : decode cX11_mean 120 = .ok (.iconst (-1), 1) := by decide +kernel
theorem dX11_mean_121 : decode cX11_mean 121 = .ok (.if_icmp .ne 7, 3) := by decide +kernel
theorem dX11_mean_124 : decode cX11_mean 124 = .ok (.ldc2_w 210, 3) := by decide +kernel
theorem dX11_mean_127 : decode cX11_mean 127 = .ok (.lreturn, 1) := by decide +kernel
theorem dX11_mean_128 : decode cX11_mean 128 = .ok (.lload_n 2, 1) := by decide +kernel
theorem dX11_mean_129 : decode cX11_mean 129 = .ok (.aload_n 0, 1) := by decide +kernel
theorem dX11_mean_130 : decode cX11_mean 130 = .ok (.getfield 82, 3) := by decide +kernel
theorem dX11_mean_133 : decode cX11_mean 133 = .ok (.iload 6, 2) := by decide +kernel
theorem dX11_mean_135 : decode cX11_mean 135 = .ok (.iaload, 1) := by decide +kernel
theorem dX11_mean_136 : decode cX11_mean 136 = .ok (.i2l, 1) := by decide +kernel
theorem dX11_mean_137 : decode cX11_mean 137 = .ok (.iload 7, 2) := by decide +kernel
theorem dX11_mean_139 : decode cX11_mean 139 = .ok (.i2l, 1) := by decide +kernel
theorem dX11_mean_140 : decode cX11_mean 140 = .ok (.lmul, 1) := by decide +kernel
theorem dX11_mean_141 : decode cX11_mean 141 = .ok (.ladd, 1) := by decide +kernel
theorem dX11_mean_142 : decode cX11_mean 142 = .ok (.lstore_n 2, 1) := by decide +kernel
theorem dX11_mean_143 : decode cX11_mean 143 = .ok (.lload 4, 2) := by decide +kernel
theorem dX11_mean_145 : decode cX11_mean 145 = .ok (.aload_n 0, 1) := by decide +kernel
theorem dX11_mean_146 : decode cX11_mean 146 = .ok (.getfield 82, 3) := by decide +kernel
theorem dX11_mean_149 : decode cX11_mean 149 = .ok (.iload 6, 2) := by decide +kernel
theorem dX11_mean_151 : decode cX11_mean 151 = .ok (.iaload, 1) := by decide +kernel
theorem dX11_mean_152 : decode cX11_mean 152 = .ok (.i2l, 1) := by decide +kernel
theorem dX11_mean_153 : decode cX11_mean 153 = .ok (.ladd, 1) := by decide +kernel
theorem dX11_mean_154 : decode cX11_mean 154 = .ok (.lstore 4, 2) := by decide +kernel
theorem dX11_mean_156 : decode cX11_mean 156 = .ok (.iinc 6 1, 3) := by decide +kernel
theorem dX11_mean_159 : decode cX11_mean 159 = .ok (.goto (-133), 3) := by decide +kernel
theorem dX11_mean_162 : decode cX11_mean 162 = .ok (.lload 4, 2) := by decide +kernel
theorem dX11_mean_164 : decode cX11_mean 164 = .ok (.lconst 0, 1) := by decide +kernel
theorem dX11_mean_165 : decode cX11_mean 165 = .ok (.lcmp, 1) := by decide +kernel
theorem dX11_mean_166 : decode cX11_mean 166 = .ok (.ifCond .ne 7, 3) := by decide +kernel
theorem dX11_mean_169 : decode cX11_mean 169 = .ok (.ldc2_w 210, 3) := by decide +kernel
theorem dX11_mean_172 : decode cX11_mean 172 = .ok (.lreturn, 1) := by decide +kernel
theorem dX11_mean_173 : decode cX11_mean 173 = .ok (.lload_n 2, 1) := by decide +kernel
theorem dX11_mean_174 : decode cX11_mean 174 = .ok (.lstore 6, 2) := by decide +kernel
theorem dX11_mean_176 : decode cX11_mean 176 = .ok (.lload 4, 2) := by decide +kernel
theorem dX11_mean_178 : decode cX11_mean 178 = .ok (.lstore 8, 2) := by decide +kernel
theorem dX11_mean_180 : decode cX11_mean 180 = .ok (.lload 8, 2) := by decide +kernel
theorem dX11_mean_182 : decode cX11_mean 182 = .ok (.lconst 0, 1) := by decide +kernel
theorem dX11_mean_183 : decode cX11_mean 183 = .ok (.lcmp, 1) := by decide +kernel
theorem dX11_mean_184 : decode cX11_mean 184 = .ok (.ifCond .eq 21, 3) := by decide +kernel
theorem dX11_mean_187 : decode cX11_mean 187 = .ok (.lload 6, 2) := by decide +kernel
theorem dX11_mean_189 : decode cX11_mean 189 = .ok (.lload 8, 2) := by decide +kernel
theorem dX11_mean_191 : decode cX11_mean 191 = .ok (.lrem, 1) := by decide +kernel
theorem dX11_mean_192 : decode cX11_mean 192 = .ok (.lstore 10, 2) := by decide +kernel
theorem dX11_mean_194 : decode cX11_mean 194 = .ok (.lload 8, 2) := by decide +kernel
theorem dX11_mean_196 : decode cX11_mean 196 = .ok (.lstore 6, 2) := by decide +kernel
theorem dX11_mean_198 : decode cX11_mean 198 = .ok (.lload 10, 2) := by decide +kernel
theorem dX11_mean_200 : decode cX11_mean 200 = .ok (.lstore 8, 2) := by decide +kernel
theorem dX11_mean_202 : decode cX11_mean 202 = .ok (.goto (-22), 3) := by decide +kernel
theorem dX11_mean_205 : decode cX11_mean 205 = .ok (.iload_n 1, 1) := by decide +kernel
theorem dX11_mean_206 : decode cX11_mean 206 = .ok (.ifCond .ne 10, 3) := by decide +kernel
theorem dX11_mean_209 : decode cX11_mean 209 = .ok (.lload_n 2, 1) := by decide +kernel
theorem dX11_mean_210 : decode cX11_mean 210 = .ok (.lload 6, 2) := by decide +kernel
theorem dX11_mean_212 : decode cX11_mean 212 = .ok (.ldiv, 1) := by decide +kernel
theorem dX11_mean_213 : decode cX11_mean 213 = .ok (.goto 8, 3) := by decide +kernel
theorem dX11_mean_216 : decode cX11_mean 216 = .ok (.lload 4, 2) := by decide +kernel
theorem dX11_mean_218 : decode cX11_mean 218 = .ok (.lload 6, 2) := by decide +kernel
theorem dX11_mean_220 : decode cX11_mean 220 = .ok (.ldiv, 1) := by decide +kernel
theorem dX11_mean_221 : decode cX11_mean 221 = .ok (.lreturn, 1) := by decide +kernel
theorem dX11_weight_0 : decode cX11_weight 0 = .ok (.lconst 0, 1) := by decide +kernel
theorem dX11_weight_1 : decode cX11_weight 1 = .ok (.lstore_n 3, 1) := by decide +kernel
theorem dX11_weight_2 : decode cX11_weight 2 = .ok (.iload_n 1, 1) := by decide +kernel
theorem dX11_weight_3 : decode cX11_weight 3 = .ok (.istore 5, 2) := by decide +kernel
theorem dX11_weight_5 : decode cX11_weight 5 = .ok (.iload 5, 2) := by decide +kernel
theorem dX11_weight_7 : decode cX11_weight 7 = .ok (.iload_n 2, 1) := by decide +kernel
theorem dX11_weight_8 : decode cX11_weight 8 = .ok (.if_icmp .ge 30, 3) := by decide +kernel
theorem dX11_weight_11 : decode cX11_weight 11 = .ok (.lload_n 3, 1) := by decide +kernel
theorem dX11_weight_12 : decode cX11_weight 12 = .ok (.aload_n 0, 1) := by decide +kernel
theorem dX11_weight_13 : decode cX11_weight 13 = .ok (.getfield 82, 3) := by decide +kernel
theorem dX11_weight_16 : decode cX11_weight 16 = .ok (.aload_n 0, 1) := by decide +kernel
theorem dX11_weight_17 : decode cX11_weight 17 = .ok (.getfield 92, 3) := by decide +kernel
theorem dX11_weight_20 : decode cX11_weight 20 = .ok (.iload 5, 2) := by decide +kernel
theorem dX11_weight_22 : decode cX11_weight 22 = .ok (.baload, 1) := by decide +kernel
theorem dX11_weight_23 : decode cX11_weight 23 = .ok (.bipush 97, 2) := by decide +kernel
theorem dX11_weight_25 : decode cX11_weight 25 = .ok (.isub, 1) := by decide +kernel
theorem dX11_weight_26 : decode cX11_weight 26 = .ok (.iaload, 1) := by decide +kernel
theorem dX11_weight_27 : decode cX11_weight 27 = .ok (.iconst 1, 1) := by decide +kernel
theorem dX11_weight_28 : decode cX11_weight 28 = .ok (.iadd, 1) := by decide +kernel
theorem dX11_weight_29 : decode cX11_weight 29 = .ok (.i2l, 1) := by decide +kernel
theorem dX11_weight_30 : decode cX11_weight 30 = .ok (.ladd, 1) := by decide +kernel
theorem dX11_weight_31 : decode cX11_weight 31 = .ok (.lstore_n 3, 1) := by decide +kernel
theorem dX11_weight_32 : decode cX11_weight 32 = .ok (.iinc 5 1, 3) := by decide +kernel
theorem dX11_weight_35 : decode cX11_weight 35 = .ok (.goto (-30), 3) := by decide +kernel
theorem dX11_weight_38 : decode cX11_weight 38 = .ok (.lload_n 3, 1) := by decide +kernel
theorem dX11_weight_39 : decode cX11_weight 39 = .ok (.lreturn, 1) := by decide +kernel
theorem dX11_index_0 : decode cX11_index 0 = .ok (.bipush 27, 2) := by decide +kernel
theorem dX11_index_2 : decode cX11_index 2 = .ok (.iload_n 0, 1) := by decide +kernel
theorem dX11_index_3 : decode cX11_index 3 = .ok (.imul, 1) := by decide +kernel
theorem dX11_index_4 : decode cX11_index 4 = .ok (.iload_n 1, 1) := by decide +kernel
theorem dX11_index_5 : decode cX11_index 5 = .ok (.iadd, 1) := by decide +kernel
theorem dX11_index_6 : decode cX11_index 6 = .ok (.bipush 28, 2) := by decide +kernel
theorem dX11_index_8 : decode cX11_index 8 = .ok (.imul, 1) := by decide +kernel
theorem dX11_index_9 : decode cX11_index 9 = .ok (.iload_n 2, 1) := by decide +kernel
theorem dX11_index_10 : decode cX11_index 10 = .ok (.iadd, 1) := by decide +kernel
theorem dX11_index_11 : decode cX11_index 11 = .ok (.ireturn, 1) := by decide +kernel
theorem dX11_item_0 : decode cX11_item 0 = .ok (.aload_n 0, 1) := by decide +kernel
theorem dX11_item_1 : decode cX11_item 1 = .ok (.iload_n 1, 1) := by decide +kernel
theorem dX11_item_2 : decode cX11_item 2 = .ok (.iload_n 2, 1) := by decide +kernel
theorem dX11_item_3 : decode cX11_item 3 = .ok (.invokevirtual 212, 3) := by decide +kernel
theorem dX11_item_6 : decode cX11_item 6 = .ok (.aload_n 0, 1) := by decide +kernel
theorem dX11_item_7 : decode cX11_item 7 = .ok (.getfield 19, 3) := by decide +kernel
theorem dX11_item_10 : decode cX11_item 10 = .ok (.iconst 0, 1) := by decide +kernel
theorem dX11_item_11 : decode cX11_item 11 = .ok (.iaload, 1) := by decide +kernel
theorem dX11_item_12 : decode cX11_item 12 = .ok (.iload_n 3, 1) := by decide +kernel
theorem dX11_item_13 : decode cX11_item 13 = .ok (.imul, 1) := by decide +kernel
theorem dX11_item_14 : decode cX11_item 14 = .ok (.aload_n 0, 1) := by decide +kernel
theorem dX11_item_15 : decode cX11_item 15 = .ok (.getfield 19, 3) := by decide +kernel
theorem dX11_item_18 : decode cX11_item 18 = .ok (.iconst 4, 1) := by decide +kernel
theorem dX11_item_19 : decode cX11_item 19 = .ok (.iaload, 1) := by decide +kernel
theorem dX11_item_20 : decode cX11_item 20 = .ok (.iadd, 1) := by decide +kernel
theorem dX11_item_21 : decode cX11_item 21 = .ok (.i2l, 1) := by decide +kernel
theorem dX11_item_22 : decode cX11_item 22 = .ok (.lmul, 1) := by decide +kernel
theorem dX11_item_23 : decode cX11_item 23 = .ok (.iload_n 2, 1) := by decide +kernel
theorem dX11_item_24 : decode cX11_item 24 = .ok (.iload_n 1, 1) := by decide +kernel
theorem dX11_item_25 : decode cX11_item 25 = .ok (.isub, 1) := by decide +kernel
theorem dX11_item_26 : decode cX11_item 26 = .ok (.iconst 1, 1) := by decide +kernel
theorem dX11_item_27 : decode cX11_item 27 = .ok (.if_icmp .le 17, 3) := by decide +kernel
theorem dX11_item_30 : decode cX11_item 30 = .ok (.aload_n 0, 1) := by decide +kernel
theorem dX11_item_31 : decode cX11_item 31 = .ok (.getfield 89, 3) := by decide +kernel
theorem dX11_item_34 : decode cX11_item 34 = .ok (.bipush 27, 2) := by decide +kernel
theorem dX11_item_36 : decode cX11_item 36 = .ok (.iload_n 1, 1) := by decide +kernel
theorem dX11_item_37 : decode cX11_item 37 = .ok (.imul, 1) := by decide +kernel
theorem dX11_item_38 : decode cX11_item 38 = .ok (.iload_n 2, 1) := by decide +kernel
theorem dX11_item_39 : decode cX11_item 39 = .ok (.iadd, 1) := by decide +kernel
theorem dX11_item_40 : decode cX11_item 40 = .ok (.laload, 1) := by decide +kernel
theorem dX11_item_41 : decode cX11_item 41 = .ok (.goto 4, 3) := by decide +kernel
theorem dX11_item_44 : decode cX11_item 44 = .ok (.lconst 0, 1) := by decide +kernel
theorem dX11_item_45 : decode cX11_item 45 = .ok (.ladd, 1) := by decide +kernel
theorem dX11_item_46 : decode cX11_item 46 = .ok (.lreturn, 1) := by decide +kernel
theorem dX11_sums_0 : decode cX11_sums 0 = .ok (.iconst 0, 1) := by decide +kernel
theorem dX11_sums_1 : decode cX11_sums 1 = .ok (.istore_n 2, 1) := by decide +kernel
theorem dX11_sums_2 : decode cX11_sums 2 = .ok (.iload_n 2, 1) := by decide +kernel
theorem dX11_sums_3 : decode cX11_sums 3 = .ok (.iload_n 1, 1) := by decide +kernel
theorem dX11_sums_4 : decode cX11_sums 4 = .ok (.if_icmp .gt 219, 3) := by decide +kernel
theorem dX11_sums_7 : decode cX11_sums 7 = .ok (.iconst 0, 1) := by decide +kernel
theorem dX11_sums_8 : decode cX11_sums 8 = .ok (.istore_n 3, 1) := by decide +kernel
theorem dX11_sums_9 : decode cX11_sums 9 = .ok (.iload_n 3, 1) := by decide +kernel
theorem dX11_sums_10 : decode cX11_sums 10 = .ok (.iload_n 2, 1) := by decide +kernel
theorem dX11_sums_11 : decode cX11_sums 11 = .ok (.iadd, 1) := by decide +kernel
theorem dX11_sums_12 : decode cX11_sums 12 = .ok (.iload_n 1, 1) := by decide +kernel
theorem dX11_sums_13 : decode cX11_sums 13 = .ok (.if_icmp .gt 204, 3) := by decide +kernel
theorem dX11_sums_16 : decode cX11_sums 16 = .ok (.iload_n 3, 1) := by decide +kernel
theorem dX11_sums_17 : decode cX11_sums 17 = .ok (.iload_n 2, 1) := by decide +kernel
theorem dX11_sums_18 : decode cX11_sums 18 = .ok (.iadd, 1) := by decide +kernel
theorem dX11_sums_19 : decode cX11_sums 19 = .ok (.istore 4, 2) := by decide +kernel
theorem dX11_sums_21 : decode cX11_sums 21 = .ok (.iload_n 2, 1) := by decide +kernel
theorem dX11_sums_22 : decode cX11_sums 22 = .ok (.iconst 1, 1) := by decide +kernel
theorem dX11_sums_23 : decode cX11_sums 23 = .ok (.if_icmp .le 69, 3) := by decide +kernel
theorem dX11_sums_26 : decode cX11_sums 26 = .ok (.ldc2_w 218, 3) := by decide +kernel
theorem dX11_sums_29 : decode cX11_sums 29 = .ok (.lstore 5, 2) := by decide +kernel
theorem dX11_sums_31 : decode cX11_sums 31 = .ok (.iload_n 3, 1) := by decide +kernel
theorem dX11_sums_32 : decode cX11_sums 32 = .ok (.iconst 1, 1) := by decide +kernel
theorem dX11_sums_33 : decode cX11_sums 33 = .ok (.iadd, 1) := by decide +kernel
theorem dX11_sums_34 : decode cX11_sums 34 = .ok (.istore 7, 2) := by decide +kernel
theorem dX11_sums_36 : decode cX11_sums 36 = .ok (.iload 7, 2) := by decide +kernel
theorem dX11_sums_38 : decode cX11_sums 38 = .ok (.iload 4, 2) := by decide +kernel
theorem dX11_sums_40 : decode cX11_sums 40 = .ok (.if_icmp .ge 38, 3) := by decide +kernel
theorem dX11_sums_43 : decode cX11_sums 43 = .ok (.lload 5, 2) := by decide +kernel
theorem dX11_sums_45 : decode cX11_sums 45 = .ok (.aload_n 0, 1) := by decide +kernel
theorem dX11_sums_46 : decode cX11_sums 46 = .ok (.iload_n 3, 1) := by decide +kernel
theorem dX11_sums_47 : decode cX11_sums 47 = .ok (.iload 7, 2) := by decide +kernel
theorem dX11_sums_49 : decode cX11_sums 49 = .ok (.iconst 1, 1) := by decide +kernel
theorem dX11_sums_50 : decode cX11_sums 50 = .ok (.invokevirtual 220, 3) := by decide +kernel
theorem dX11_sums_53 : decode cX11_sums 53 = .ok (.aload_n 0, 1) := by decide +kernel
theorem dX11_sums_54 : decode cX11_sums 54 = .ok (.getfield 85, 3) := by decide +kernel
theorem dX11_sums_57 : decode cX11_sums 57 = .ok (.iload 7, 2) := by decide +kernel
theorem dX11_sums_59 : decode cX11_sums 59 = .ok (.iload 4, 2) := by decide +kernel
theorem dX11_sums_61 : decode cX11_sums 61 = .ok (.iconst 2, 1) := by decide +kernel
theorem dX11_sums_62 : decode cX11_sums 62 = .ok (.invokestatic 224, 3) := by decide +kernel
theorem dX11_sums_65 : decode cX11_sums 65 = .ok (.laload, 1) := by decide +kernel
theorem dX11_sums_66 : decode cX11_sums 66 = .ok (.ladd, 1) := by decide +kernel
theorem dX11_sums_67 : decode cX11_sums 67 = .ok (.invokestatic 227, 3) := by decide +kernel
theorem dX11_sums_70 : decode cX11_sums 70 = .ok (.lstore 5, 2) := by decide +kernel
theorem dX11_sums_72 : decode cX11_sums 72 = .ok (.iinc 7 1, 3) := by decide +kernel
theorem dX11_sums_75 : decode cX11_sums 75 = .ok (.goto (-39), 3) := by decide +kernel
theorem dX11_sums_78 : decode cX11_sums 78 = .ok (.aload_n 0, 1) := by decide +kernel
theorem dX11_sums_79 : decode cX11_sums 79 = .ok (.getfield 89, 3) := by decide +kernel
theorem dX11_sums_82 : decode cX11_sums 82 = .ok (.bipush 27, 2) := by decide +kernel
theorem dX11_sums_84 : decode cX11_sums 84 = .ok (.iload_n 3, 1) := by decide +kernel
theorem dX11_sums_85 : decode cX11_sums 85 = .ok (.imul, 1) := by decide +kernel
theorem dX11_sums_86 : decode cX11_sums 86 = .ok (.iload 4, 2) := by decide +kernel
theorem dX11_sums_88 : decode cX11_sums 88 = .ok (.iadd, 1) := by decide +kernel
theorem dX11_sums_89 : decode cX11_sums 89 = .ok (.lload 5, 2) := by decide +kernel
theorem dX11_sums_91 : decode cX11_sums 91 = .ok (.lastore, 1) := by decide +kernel
theorem dX11_sums_92 : decode cX11_sums 92 = .ok (.bipush 27, 2) := by decide +kernel
theorem dX11_sums_94 : decode cX11_sums 94 = .ok (.istore 5, 2) := by decide +kernel
theorem dX11_sums_96 : decode cX11_sums 96 = .ok (.iload 5, 2) := by decide +kernel
theorem dX11_sums_98 : decode cX11_sums 98 = .ok (.iconst 1, 1) := by decide +kernel
theorem dX11_sums_99 : decode cX11_sums 99 = .ok (.if_icmp .lt 112, 3) := by decide +kernel
theorem dX11_sums_102 : decode cX11_sums 102 = .ok (.iload_n 2, 1) := by decide +kernel
theorem dX11_sums_103 : decode cX11_sums 103 = .ok (.ifCond .ne 7, 3) := by decide +kernel
theorem dX11_sums_106 : decode cX11_sums 106 = .ok (.lconst 0, 1) := by decide +kernel
theorem dX11_sums_107 : decode cX11_sums 107 = .ok (.goto 6, 3) := by decide +kernel
theorem dX11_sums_110 : decode cX11_sums 110 = .ok (.ldc2_w 218, 3) := by decide +kernel
theorem dX11_sums_113 : decode cX11_sums 113 = .ok (.lstore 6, 2) := by decide +kernel
theorem dX11_sums_115 : decode cX11_sums 115 = .ok (.iload_n 3, 1) := by decide +kernel
theorem dX11_sums_116 : decode cX11_sums 116 = .ok (.iconst 1, 1) := by decide +kernel
theorem dX11_sums_117 : decode cX11_sums 117 = .ok (.iadd, 1) := by decide +kernel
theorem dX11_sums_118 : decode cX11_sums 118 = .ok (.istore 8, 2) := by decide +kernel
theorem dX11_sums_120 : decode cX11_sums 120 = .ok (.iload 8, 2) := by decide +kernel
theorem dX11_sums_122 : decode cX11_sums 122 = .ok (.iload 4, 2) := by decide +kernel
theorem dX11_sums_124 : decode cX11_sums 124 = .ok (.if_icmp .gt 49, 3) := by decide +kernel
theorem dX11_sums_127 : decode cX11_sums 127 = .ok (.iload 5, 2) := by decide +kernel
theorem dX11_sums_129 : decode cX11_sums 129 = .ok (.bipush 27, 2) := by decide +kernel
theorem dX11_sums_131 : decode cX11_sums 131 = .ok (.if_icmp .ge 42, 3) := by decide +kernel
theorem dX11_sums_134 : decode cX11_sums 134 = .ok (.lload 6, 2) := by decide +kernel
theorem dX11_sums_136 : decode cX11_sums 136 = .ok (.aload_n 0, 1) := by decide +kernel
theorem dX11_sums_137 : decode cX11_sums 137 = .ok (.iload_n 3, 1) := by decide +kernel
theorem dX11_sums_138 : decode cX11_sums 138 = .ok (.iload 8, 2) := by decide +kernel
theorem dX11_sums_140 : decode cX11_sums 140 = .ok (.iload 5, 2) := by decide +kernel
theorem dX11_sums_142 : decode cX11_sums 142 = .ok (.invokevirtual 220, 3) := by decide +kernel
theorem dX11_sums_145 : decode cX11_sums 145 = .ok (.aload_n 0, 1) := by decide +kernel
theorem dX11_sums_146 : decode cX11_sums 146 = .ok (.getfield 85, 3) := by decide +kernel
theorem dX11_sums_149 : decode cX11_sums 149 = .ok (.iload 8, 2) := by decide +kernel
theorem dX11_sums_151 : decode cX11_sums 151 = .ok (.iload 4, 2) := by decide +kernel
theorem dX11_sums_153 : decode cX11_sums 153 = .ok (.iload 5, 2) := by decide +kernel
theorem dX11_sums_155 : decode cX11_sums 155 = .ok (.iconst 1, 1) := by decide +kernel
theorem dX11_sums_156 : decode cX11_sums 156 = .ok (.iadd, 1) := by decide +kernel
theorem dX11_sums_157 : decode cX11_sums 157 = .ok (.invokestatic 224, 3) := by decide +kernel
theorem dX11_sums_160 : decode cX11_sums 160 = .ok (.laload, 1) := by decide +kernel
theorem dX11_sums_161 : decode cX11_sums 161 = .ok (.ladd, 1) := by decide +kernel
theorem dX11_sums_162 : decode cX11_sums 162 = .ok (.invokestatic 227, 3) := by decide +kernel
theorem dX11_sums_165 : decode cX11_sums 165 = .ok (.lstore 6, 2) := by decide +kernel
theorem dX11_sums_167 : decode cX11_sums 167 = .ok (.iinc 8 1, 3) := by decide +kernel
theorem dX11_sums_170 : decode cX11_sums 170 = .ok (.goto (-50), 3) := by decide +kernel
theorem dX11_sums_173 : decode cX11_sums 173 = .ok (.aload_n 0, 1) := by decide +kernel
theorem dX11_sums_174 : decode cX11_sums 174 = .ok (.getfield 85, 3) := by decide +kernel
theorem dX11_sums_177 : decode cX11_sums 177 = .ok (.iload_n 3, 1) := by decide +kernel
theorem dX11_sums_178 : decode cX11_sums 178 = .ok (.iload 4, 2) := by decide +kernel
theorem dX11_sums_180 : decode cX11_sums 180 = .ok (.iload 5, 2) := by decide +kernel
theorem dX11_sums_182 : decode cX11_sums 182 = .ok (.invokestatic 224, 3) := by decide +kernel
theorem dX11_sums_185 : decode cX11_sums 185 = .ok (.iload 5, 2) := by decide +kernel
theorem dX11_sums_187 : decode cX11_sums 187 = .ok (.bipush 27, 2) := by decide +kernel
theorem dX11_sums_189 : decode cX11_sums 189 = .ok (.if_icmp .ne 13, 3) := by decide +kernel
theorem dX11_sums_192 : decode cX11_sums 192 = .ok (.iload_n 2, 1) := by decide +kernel
theorem dX11_sums_193 : decode cX11_sums 193 = .ok (.ifCond .le 9, 3) := by decide +kernel
theorem dX11_sums_196 : decode cX11_sums 196 = .ok (.ldc2_w 233, 3) := by decide +kernel
theorem dX11_sums_199 : decode cX11_sums 199 = .ok (.goto 5, 3) := by decide +kernel
theorem dX11_sums_202 : decode cX11_sums 202 = .ok (.lload 6, 2) := by decide +kernel
theorem dX11_sums_204 : decode cX11_sums 204 = .ok (.lastore, 1) := by decide +kernel
theorem dX11_sums_205 : decode cX11_sums 205 = .ok (.iinc 5 (-1), 3) := by decide +kernel
theorem dX11_sums_208 : decode cX11_sums 208 = .ok (.goto (-112), 3) := by decide +kernel
theorem dX11_sums_211 : decode cX11_sums 211 = .ok (.iinc 3 1, 3) := by decide +kernel
theorem dX11_sums_214 : decode cX11_sums 214 = .ok (.goto (-205), 3) := by decide +kernel
theorem dX11_sums_217 : decode cX11_sums 217 = .ok (.iinc 2 1, 3) := by decide +kernel
theorem dX11_sums_220 : decode cX11_sums 220 = .ok (.goto (-218), 3) := by decide +kernel
theorem dX11_sums_223 : decode cX11_sums 223 = .ok (.return_, 1) := by decide +kernel
theorem dX11_lays_0 : decode cX11_lays 0 = .ok (.iload_n 2, 1) := by decide +kernel
theorem dX11_lays_1 : decode cX11_lays 1 = .ok (.istore 6, 2) := by decide +kernel
theorem dX11_lays_3 : decode cX11_lays 3 = .ok (.iload 4, 2) := by decide +kernel
theorem dX11_lays_5 : decode cX11_lays 5 = .ok (.istore 7, 2) := by decide +kernel
theorem dX11_lays_7 : decode cX11_lays 7 = .ok (.iload 5, 2) := by decide +kernel
theorem dX11_lays_9 : decode cX11_lays 9 = .ok (.istore 8, 2) := by decide +kernel
theorem dX11_lays_11 : decode cX11_lays 11 = .ok (.iload 6, 2) := by decide +kernel
theorem dX11_lays_13 : decode cX11_lays 13 = .ok (.iload_n 3, 1) := by decide +kernel
theorem dX11_lays_14 : decode cX11_lays 14 = .ok (.if_icmp .ge 143, 3) := by decide +kernel
theorem dX11_lays_17 : decode cX11_lays 17 = .ok (.iload 8, 2) := by decide +kernel
theorem dX11_lays_19 : decode cX11_lays 19 = .ok (.ifCond .eq 18, 3) := by decide +kernel
theorem dX11_lays_22 : decode cX11_lays 22 = .ok (.aload_n 0, 1) := by decide +kernel
theorem dX11_lays_23 : decode cX11_lays 23 = .ok (.getfield 89, 3) := by decide +kernel
theorem dX11_lays_26 : decode cX11_lays 26 = .ok (.bipush 27, 2) := by decide +kernel
theorem dX11_lays_28 : decode cX11_lays 28 = .ok (.iload 6, 2) := by decide +kernel
theorem dX11_lays_30 : decode cX11_lays 30 = .ok (.imul, 1) := by decide +kernel
theorem dX11_lays_31 : decode cX11_lays 31 = .ok (.iload_n 3, 1) := by decide +kernel
theorem dX11_lays_32 : decode cX11_lays 32 = .ok (.iadd, 1) := by decide +kernel
theorem dX11_lays_33 : decode cX11_lays 33 = .ok (.laload, 1) := by decide +kernel
theorem dX11_lays_34 : decode cX11_lays 34 = .ok (.goto 16, 3) := by decide +kernel
theorem dX11_lays_37 : decode cX11_lays 37 = .ok (.aload_n 0, 1) := by decide +kernel
theorem dX11_lays_38 : decode cX11_lays 38 = .ok (.getfield 85, 3) := by decide +kernel
theorem dX11_lays_41 : decode cX11_lays 41 = .ok (.iload 6, 2) := by decide +kernel
theorem dX11_lays_43 : decode cX11_lays 43 = .ok (.iload_n 3, 1) := by decide +kernel
theorem dX11_lays_44 : decode cX11_lays 44 = .ok (.iload 7, 2) := by decide +kernel
theorem dX11_lays_46 : decode cX11_lays 46 = .ok (.invokestatic 224, 3) := by decide +kernel
theorem dX11_lays_49 : decode cX11_lays 49 = .ok (.laload, 1) := by decide +kernel
theorem dX11_lays_50 : decode cX11_lays 50 = .ok (.lstore 9, 2) := by decide +kernel
theorem dX11_lays_52 : decode cX11_lays 52 = .ok (.iload 6, 2) := by decide +kernel
theorem dX11_lays_54 : decode cX11_lays 54 = .ok (.iconst 1, 1) := by decide +kernel
theorem dX11_lays_55 : decode cX11_lays 55 = .ok (.iadd, 1) := by decide +kernel
theorem dX11_lays_56 : decode cX11_lays 56 = .ok (.istore 11, 2) := by decide +kernel
theorem dX11_lays_58 : decode cX11_lays 58 = .ok (.aload_n 0, 1) := by decide +kernel
theorem dX11_lays_59 : decode cX11_lays 59 = .ok (.iload 6, 2) := by decide +kernel
theorem dX11_lays_61 : decode cX11_lays 61 = .ok (.iload 11, 2) := by decide +kernel
theorem dX11_lays_63 : decode cX11_lays 63 = .ok (.iload 7, 2) := by decide +kernel
theorem dX11_lays_65 : decode cX11_lays 65 = .ok (.invokevirtual 220, 3) := by decide +kernel
theorem dX11_lays_68 : decode cX11_lays 68 = .ok (.aload_n 0, 1) := by decide +kernel
theorem dX11_lays_69 : decode cX11_lays 69 = .ok (.getfield 85, 3) := by decide +kernel
theorem dX11_lays_72 : decode cX11_lays 72 = .ok (.iload 11, 2) := by decide +kernel
theorem dX11_lays_74 : decode cX11_lays 74 = .ok (.iload_n 3, 1) := by decide +kernel
theorem dX11_lays_75 : decode cX11_lays 75 = .ok (.iload 7, 2) := by decide +kernel
theorem dX11_lays_77 : decode cX11_lays 77 = .ok (.iconst 1, 1) := by decide +kernel
theorem dX11_lays_78 : decode cX11_lays 78 = .ok (.iadd, 1) := by decide +kernel
theorem dX11_lays_79 : decode cX11_lays 79 = .ok (.invokestatic 224, 3) := by decide +kernel
theorem dX11_lays_82 : decode cX11_lays 82 = .ok (.laload, 1) := by decide +kernel
theorem dX11_lays_83 : decode cX11_lays 83 = .ok (.ladd, 1) := by decide +kernel
theorem dX11_lays_84 : decode cX11_lays 84 = .ok (.lload 9, 2) := by decide +kernel
theorem dX11_lays_86 : decode cX11_lays 86 = .ok (.lcmp, 1) := by decide +kernel
theorem dX11_lays_87 : decode cX11_lays 87 = .ok (.ifCond .eq 9, 3) := by decide +kernel
theorem dX11_lays_90 : decode cX11_lays 90 = .ok (.iinc 11 1, 3) := by decide +kernel
theorem dX11_lays_93 : decode cX11_lays 93 = .ok (.goto (-35), 3) := by decide +kernel
theorem dX11_lays_96 : decode cX11_lays 96 = .ok (.iload 11, 2) := by decide +kernel
theorem dX11_lays_98 : decode cX11_lays 98 = .ok (.iload 6, 2) := by decide +kernel
theorem dX11_lays_100 : decode cX11_lays 100 = .ok (.isub, 1) := by decide +kernel
theorem dX11_lays_101 : decode cX11_lays 101 = .ok (.iconst 1, 1) := by decide +kernel
theorem dX11_lays_102 : decode cX11_lays 102 = .ok (.if_icmp .ne 21, 3) := by decide +kernel
theorem dX11_lays_105 : decode cX11_lays 105 = .ok (.aload_n 0, 1) := by decide +kernel
theorem dX11_lays_106 : decode cX11_lays 106 = .ok (.iload_n 1, 1) := by decide +kernel
theorem dX11_lays_107 : decode cX11_lays 107 = .ok (.iconst 1, 1) := by decide +kernel
theorem dX11_lays_108 : decode cX11_lays 108 = .ok (.aload_n 0, 1) := by decide +kernel
theorem dX11_lays_109 : decode cX11_lays 109 = .ok (.getfield 92, 3) := by decide +kernel
theorem dX11_lays_112 : decode cX11_lays 112 = .ok (.iload 6, 2) := by decide +kernel
theorem dX11_lays_114 : decode cX11_lays 114 = .ok (.baload, 1) := by decide +kernel
theorem dX11_lays_115 : decode cX11_lays 115 = .ok (.invokevirtual 127, 3) := by decide +kernel
theorem dX11_lays_118 : decode cX11_lays 118 = .ok (.istore 12, 2) := by decide +kernel
theorem dX11_lays_120 : decode cX11_lays 120 = .ok (.goto 24, 3) := by decide +kernel
theorem dX11_lays_123 : decode cX11_lays 123 = .ok (.aload_n 0, 1) := by decide +kernel
theorem dX11_lays_124 : decode cX11_lays 124 = .ok (.iload_n 1, 1) := by decide +kernel
theorem dX11_lays_125 : decode cX11_lays 125 = .ok (.iconst 0, 1) := by decide +kernel
theorem dX11_lays_126 : decode cX11_lays 126 = .ok (.iconst (-1), 1) := by decide +kernel
theorem dX11_lays_127 : decode cX11_lays 127 = .ok (.invokevirtual 127, 3) := by decide +kernel
theorem dX11_lays_130 : decode cX11_lays 130 = .ok (.istore 12, 2) := by decide +kernel
theorem dX11_lays_132 : decode cX11_lays 132 = .ok (.aload_n 0, 1) := by decide +kernel
theorem dX11_lays_133 : decode cX11_lays 133 = .ok (.iload 12, 2) := by decide +kernel
theorem dX11_lays_135 : decode cX11_lays 135 = .ok (.iload 6, 2) := by decide +kernel
theorem dX11_lays_137 : decode cX11_lays 137 = .ok (.iload 11, 2) := by decide +kernel
theorem dX11_lays_139 : decode cX11_lays 139 = .ok (.iconst 1, 1) := by decide +kernel
theorem dX11_lays_140 : decode cX11_lays 140 = .ok (.iconst 1, 1) := by decide +kernel
theorem dX11_lays_141 : decode cX11_lays 141 = .ok (.invokevirtual 235, 3) := by decide +kernel
theorem dX11_lays_144 : decode cX11_lays 144 = .ok (.iconst 0, 1) := by decide +kernel
theorem dX11_lays_145 : decode cX11_lays 145 = .ok (.istore 8, 2) := by decide +kernel
theorem dX11_lays_147 : decode cX11_lays 147 = .ok (.iload 11, 2) := by decide +kernel
theorem dX11_lays_149 : decode cX11_lays 149 = .ok (.istore 6, 2) := by decide +kernel
theorem dX11_lays_151 : decode cX11_lays 151 = .ok (.iinc 7 1, 3) := by decide +kernel
theorem dX11_lays_154 : decode cX11_lays 154 = .ok (.goto (-143), 3) := by decide +kernel
theorem dX11_lays_157 : decode cX11_lays 157 = .ok (.return_, 1) := by decide +kernel
theorem dX11_lay_0 : decode cX11_lay 0 = .ok (.aload_n 0, 1) := by decide +kernel
theorem dX11_lay_1 : decode cX11_lay 1 = .ok (.iconst 0, 1) := by decide +kernel
theorem dX11_lay_2 : decode cX11_lay 2 = .ok (.putfield 98, 3) := by decide +kernel
theorem dX11_lay_5 : decode cX11_lay 5 = .ok (.aload_n 0, 1) := by decide +kernel
theorem dX11_lay_6 : decode cX11_lay 6 = .ok (.invokevirtual 187, 3) := by decide +kernel
theorem dX11_lay_9 : decode cX11_lay 9 = .ok (.ifCond .ne 5, 3) := by decide +kernel
theorem dX11_lay_12 : decode cX11_lay 12 = .ok (.iconst (-1), 1) := by decide +kernel
theorem dX11_lay_13 : decode cX11_lay 13 = .ok (.ireturn, 1) := by decide +kernel
theorem dX11_lay_14 : decode cX11_lay 14 = .ok (.iconst 0, 1) := by decide +kernel
theorem dX11_lay_15 : decode cX11_lay 15 = .ok (.istore_n 1, 1) := by decide +kernel
theorem dX11_lay_16 : decode cX11_lay 16 = .ok (.iload_n 1, 1) := by decide +kernel
theorem dX11_lay_17 : decode cX11_lay 17 = .ok (.aload_n 0, 1) := by decide +kernel
theorem dX11_lay_18 : decode cX11_lay 18 = .ok (.getfield 181, 3) := by decide +kernel
theorem dX11_lay_21 : decode cX11_lay 21 = .ok (.if_icmp .ge 39, 3) := by decide +kernel
theorem dX11_lay_24 : decode cX11_lay 24 = .ok (.iconst 0, 1) := by decide +kernel
theorem dX11_lay_25 : decode cX11_lay 25 = .ok (.istore_n 2, 1) := by decide +kernel
theorem dX11_lay_26 : decode cX11_lay 26 = .ok (.iload_n 2, 1) := by decide +kernel
theorem dX11_lay_27 : decode cX11_lay 27 = .ok (.iload_n 1, 1) := by decide +kernel
theorem dX11_lay_28 : decode cX11_lay 28 = .ok (.if_icmp .ge 26, 3) := by decide +kernel
theorem dX11_lay_31 : decode cX11_lay 31 = .ok (.aload_n 0, 1) := by decide +kernel
theorem dX11_lay_32 : decode cX11_lay 32 = .ok (.getfield 67, 3) := by decide +kernel
theorem dX11_lay_35 : decode cX11_lay 35 = .ok (.iload_n 1, 1) := by decide +kernel
theorem dX11_lay_36 : decode cX11_lay 36 = .ok (.baload, 1) := by decide +kernel
theorem dX11_lay_37 : decode cX11_lay 37 = .ok (.aload_n 0, 1) := by decide +kernel
theorem dX11_lay_38 : decode cX11_lay 38 = .ok (.getfield 67, 3) := by decide +kernel
theorem dX11_lay_41 : decode cX11_lay 41 = .ok (.iload_n 2, 1) := by decide +kernel
theorem dX11_lay_42 : decode cX11_lay 42 = .ok (.baload, 1) := by decide +kernel
theorem dX11_lay_43 : decode cX11_lay 43 = .ok (.if_icmp .ne 5, 3) := by decide +kernel
theorem dX11_lay_46 : decode cX11_lay 46 = .ok (.iconst (-1), 1) := by decide +kernel
theorem dX11_lay_47 : decode cX11_lay 47 = .ok (.ireturn, 1) := by decide +kernel
theorem dX11_lay_48 : decode cX11_lay 48 = .ok (.iinc 2 1, 3) := by decide +kernel
theorem dX11_lay_51 : decode cX11_lay 51 = .ok (.goto (-25), 3) := by decide +kernel
theorem dX11_lay_54 : decode cX11_lay 54 = .ok (.iinc 1 1, 3) := by decide +kernel
theorem dX11_lay_57 : decode cX11_lay 57 = .ok (.goto (-41), 3) := by decide +kernel
theorem dX11_lay_60 : decode cX11_lay 60 = .ok (.aload_n 0, 1) := by decide +kernel
theorem dX11_lay_61 : decode cX11_lay 61 = .ok (.getfield 181, 3) := by decide +kernel
theorem dX11_lay_64 : decode cX11_lay 64 = .ok (.istore_n 1, 1) := by decide +kernel
theorem dX11_lay_65 : decode cX11_lay 65 = .ok (.iconst 0, 1) := by decide +kernel
theorem dX11_lay_66 : decode cX11_lay 66 = .ok (.istore_n 2, 1) := by decide +kernel
theorem dX11_lay_67 : decode cX11_lay 67 = .ok (.iload_n 2, 1) := by decide +kernel
theorem dX11_lay_68 : decode cX11_lay 68 = .ok (.iload_n 1, 1) := by decide +kernel
theorem dX11_lay_69 : decode cX11_lay 69 = .ok (.if_icmp .ge 21, 3) := by decide +kernel
theorem dX11_lay_72 : decode cX11_lay 72 = .ok (.aload_n 0, 1) := by decide +kernel
theorem dX11_lay_73 : decode cX11_lay 73 = .ok (.getfield 92, 3) := by decide +kernel
theorem dX11_lay_76 : decode cX11_lay 76 = .ok (.iload_n 2, 1) := by decide +kernel
theorem dX11_lay_77 : decode cX11_lay 77 = .ok (.aload_n 0, 1) := by decide +kernel
theorem dX11_lay_78 : decode cX11_lay 78 = .ok (.getfield 67, 3) := by decide +kernel
theorem dX11_lay_81 : decode cX11_lay 81 = .ok (.iload_n 2, 1) := by decide +kernel
theorem dX11_lay_82 : decode cX11_lay 82 = .ok (.baload, 1) := by decide +kernel
theorem dX11_lay_83 : decode cX11_lay 83 = .ok (.bastore, 1) := by decide +kernel
theorem dX11_lay_84 : decode cX11_lay 84 = .ok (.iinc 2 1, 3) := by decide +kernel
theorem dX11_lay_87 : decode cX11_lay 87 = .ok (.goto (-20), 3) := by decide +kernel
theorem dX11_lay_90 : decode cX11_lay 90 = .ok (.aload_n 0, 1) := by decide +kernel
theorem dX11_lay_91 : decode cX11_lay 91 = .ok (.iconst 0, 1) := by decide +kernel
theorem dX11_lay_92 : decode cX11_lay 92 = .ok (.putfield 181, 3) := by decide +kernel
theorem dX11_lay_95 : decode cX11_lay 95 = .ok (.aload_n 0, 1) := by decide +kernel
theorem dX11_lay_96 : decode cX11_lay 96 = .ok (.iload_n 1, 1) := by decide +kernel
theorem dX11_lay_97 : decode cX11_lay 97 = .ok (.invokevirtual 239, 3) := by decide +kernel
theorem dX11_lay_100 : decode cX11_lay 100 = .ok (.aload_n 0, 1) := by decide +kernel
theorem dX11_lay_101 : decode cX11_lay 101 = .ok (.iconst 1, 1) := by decide +kernel
theorem dX11_lay_102 : decode cX11_lay 102 = .ok (.putfield 22, 3) := by decide +kernel
theorem dX11_lay_105 : decode cX11_lay 105 = .ok (.aload_n 0, 1) := by decide +kernel
theorem dX11_lay_106 : decode cX11_lay 106 = .ok (.iconst 0, 1) := by decide +kernel
theorem dX11_lay_107 : decode cX11_lay 107 = .ok (.iconst 0, 1) := by decide +kernel
theorem dX11_lay_108 : decode cX11_lay 108 = .ok (.iload_n 1, 1) := by decide +kernel
theorem dX11_lay_109 : decode cX11_lay 109 = .ok (.iconst 1, 1) := by decide +kernel
theorem dX11_lay_110 : decode cX11_lay 110 = .ok (.iload_n 1, 1) := by decide +kernel
theorem dX11_lay_111 : decode cX11_lay 111 = .ok (.iconst 1, 1) := by decide +kernel
theorem dX11_lay_112 : decode cX11_lay 112 = .ok (.if_icmp .le 7, 3) := by decide +kernel
theorem dX11_lay_115 : decode cX11_lay 115 = .ok (.iconst 1, 1) := by decide +kernel
theorem dX11_lay_116 : decode cX11_lay 116 = .ok (.goto 4, 3) := by decide +kernel
theorem dX11_lay_119 : decode cX11_lay 119 = .ok (.iconst 0, 1) := by decide +kernel
theorem dX11_lay_120 : decode cX11_lay 120 = .ok (.invokevirtual 235, 3) := by decide +kernel
theorem dX11_lay_123 : decode cX11_lay 123 = .ok (.aload_n 0, 1) := by decide +kernel
theorem dX11_lay_124 : decode cX11_lay 124 = .ok (.invokevirtual 95, 3) := by decide +kernel
theorem dX11_lay_127 : decode cX11_lay 127 = .ok (.aload_n 0, 1) := by decide +kernel
theorem dX11_lay_128 : decode cX11_lay 128 = .ok (.iconst 0, 1) := by decide +kernel
theorem dX11_lay_129 : decode cX11_lay 129 = .ok (.invokevirtual 131, 3) := by decide +kernel
theorem dX11_lay_132 : decode cX11_lay 132 = .ok (.iload_n 1, 1) := by decide +kernel
theorem dX11_lay_133 : decode cX11_lay 133 = .ok (.iconst 1, 1) := by decide +kernel
theorem dX11_lay_134 : decode cX11_lay 134 = .ok (.if_icmp .le 12, 3) := by decide +kernel
theorem dX11_lay_137 : decode cX11_lay 137 = .ok (.aload_n 0, 1) := by decide +kernel
theorem dX11_lay_138 : decode cX11_lay 138 = .ok (.getfield 89, 3) := by decide +kernel
theorem dX11_lay_141 : decode cX11_lay 141 = .ok (.iload_n 1, 1) := by decide +kernel
theorem dX11_lay_142 : decode cX11_lay 142 = .ok (.laload, 1) := by decide +kernel
theorem dX11_lay_143 : decode cX11_lay 143 = .ok (.goto 14, 3) := by decide +kernel
theorem dX11_lay_146 : decode cX11_lay 146 = .ok (.aload_n 0, 1) := by decide +kernel
theorem dX11_lay_147 : decode cX11_lay 147 = .ok (.getfield 85, 3) := by decide +kernel
theorem dX11_lay_150 : decode cX11_lay 150 = .ok (.iconst 0, 1) := by decide +kernel
theorem dX11_lay_151 : decode cX11_lay 151 = .ok (.iconst 1, 1) := by decide +kernel
theorem dX11_lay_152 : decode cX11_lay 152 = .ok (.iconst 1, 1) := by decide +kernel
theorem dX11_lay_153 : decode cX11_lay 153 = .ok (.invokestatic 224, 3) := by decide +kernel
theorem dX11_lay_156 : decode cX11_lay 156 = .ok (.laload, 1) := by decide +kernel
theorem dX11_lay_157 : decode cX11_lay 157 = .ok (.l2i, 1) := by decide +kernel
theorem dX11_lay_158 : decode cX11_lay 158 = .ok (.ireturn, 1) := by decide +kernel
theorem dX11_count_0 : decode cX11_count 0 = .ok (.aload_n 0, 1) := by decide +kernel
theorem dX11_count_1 : decode cX11_count 1 = .ok (.iconst 0, 1) := by decide +kernel
theorem dX11_count_2 : decode cX11_count 2 = .ok (.putfield 98, 3) := by decide +kernel
theorem dX11_count_5 : decode cX11_count 5 = .ok (.iconst 0, 1) := by decide +kernel
theorem dX11_count_6 : decode cX11_count 6 = .ok (.istore_n 2, 1) := by decide +kernel
theorem dX11_count_7 : decode cX11_count 7 = .ok (.iload_n 1, 1) := by decide +kernel
theorem dX11_count_8 : decode cX11_count 8 = .ok (.tableswitch 94 0 5 #[40, 45, 50, 55, 60, 77], 40) := by decide +kernel
theorem dX11_count_48 : decode cX11_count 48 = .ok (.aload_n 0, 1) := by decide +kernel
theorem dX11_count_49 : decode cX11_count 49 = .ok (.getfield 22, 3) := by decide +kernel
theorem dX11_count_52 : decode cX11_count 52 = .ok (.ireturn, 1) := by decide +kernel
theorem dX11_count_53 : decode cX11_count 53 = .ok (.aload_n 0, 1) := by decide +kernel
theorem dX11_count_54 : decode cX11_count 54 = .ok (.getfield 191, 3) := by decide +kernel
theorem dX11_count_57 : decode cX11_count 57 = .ok (.ireturn, 1) := by decide +kernel
theorem dX11_count_58 : decode cX11_count 58 = .ok (.aload_n 0, 1) := by decide +kernel
theorem dX11_count_59 : decode cX11_count 59 = .ok (.getfield 181, 3) := by decide +kernel
theorem dX11_count_62 : decode cX11_count 62 = .ok (.ireturn, 1) := by decide +kernel
theorem dX11_count_63 : decode cX11_count 63 = .ok (.aload_n 0, 1) := by decide +kernel
theorem dX11_count_64 : decode cX11_count 64 = .ok (.invokevirtual 174, 3) := by decide +kernel
theorem dX11_count_67 : decode cX11_count 67 = .ok (.ireturn, 1) := by decide +kernel
theorem dX11_count_68 : decode cX11_count 68 = .ok (.aload_n 0, 1) := by decide +kernel
theorem dX11_count_69 : decode cX11_count 69 = .ok (.iload_n 2, 1) := by decide +kernel
theorem dX11_count_70 : decode cX11_count 70 = .ok (.invokevirtual 171, 3) := by decide +kernel
theorem dX11_count_73 : decode cX11_count 73 = .ok (.iconst (-1), 1) := by decide +kernel
theorem dX11_count_74 : decode cX11_count 74 = .ok (.if_icmp .eq 9, 3) := by decide +kernel
theorem dX11_count_77 : decode cX11_count 77 = .ok (.iinc 2 1, 3) := by decide +kernel
theorem dX11_count_80 : decode cX11_count 80 = .ok (.goto (-12), 3) := by decide +kernel
theorem dX11_count_83 : decode cX11_count 83 = .ok (.iload_n 2, 1) := by decide +kernel
theorem dX11_count_84 : decode cX11_count 84 = .ok (.ireturn, 1) := by decide +kernel
theorem dX11_count_85 : decode cX11_count 85 = .ok (.aload_n 0, 1) := by decide +kernel
theorem dX11_count_86 : decode cX11_count 86 = .ok (.iload_n 2, 1) := by decide +kernel
theorem dX11_count_87 : decode cX11_count 87 = .ok (.invokevirtual 178, 3) := by decide +kernel
theorem dX11_count_90 : decode cX11_count 90 = .ok (.iconst (-1), 1) := by decide +kernel
theorem dX11_count_91 : decode cX11_count 91 = .ok (.if_icmp .eq 9, 3) := by decide +kernel
theorem dX11_count_94 : decode cX11_count 94 = .ok (.iinc 2 1, 3) := by decide +kernel
theorem dX11_count_97 : decode cX11_count 97 = .ok (.goto (-12), 3) := by decide +kernel
theorem dX11_count_100 : decode cX11_count 100 = .ok (.iload_n 2, 1) := by decide +kernel
theorem dX11_count_101 : decode cX11_count 101 = .ok (.ireturn, 1) := by decide +kernel
theorem dX11_count_102 : decode cX11_count 102 = .ok (.iconst (-1), 1) := by decide +kernel
theorem dX11_count_103 : decode cX11_count 103 = .ok (.ireturn, 1) := by decide +kernel
end
section
theorem dL_at_0 : decode cL_at 0 = .ok (.aload_n 3, 1) := by decide +kernel
theorem dL_at_1 : decode cL_at 1 = .ok (.iconst 0, 1) := by decide +kernel
theorem dL_at_2 : decode cL_at 2 = .ok (.aload_n 0, 1) := by decide +kernel
theorem dL_at_3 : decode cL_at 3 = .ok (.iload_n 1, 1) := by decide +kernel
theorem dL_at_4 : decode cL_at 4 = .ok (.iload_n 2, 1) := by decide +kernel
theorem dL_at_5 : decode cL_at 5 = .ok (.invokevirtual 7, 3) := by decide +kernel
theorem dL_at_8 : decode cL_at 8 = .ok (.i2l, 1) := by decide +kernel
theorem dL_at_9 : decode cL_at 9 = .ok (.lastore, 1) := by decide +kernel
theorem dL_at_10 : decode cL_at 10 = .ok (.goto 7, 3) := by decide +kernel
theorem dL_at_13 : decode cL_at 13 = .ok (.astore 4, 2) := by decide +kernel
theorem dL_at_15 : decode cL_at 15 = .ok (.iconst 1, 1) := by decide +kernel
theorem dL_at_16 : decode cL_at 16 = .ok (.ireturn, 1) := by decide +kernel
theorem dL_at_17 : decode cL_at 17 = .ok (.iconst 0, 1) := by decide +kernel
theorem dL_at_18 : decode cL_at 18 = .ok (.ireturn, 1) := by decide +kernel
theorem dL_letter_0 : decode cL_letter 0 = .ok (.aload_n 3, 1) := by decide +kernel
theorem dL_letter_1 : decode cL_letter 1 = .ok (.iconst 0, 1) := by decide +kernel
theorem dL_letter_2 : decode cL_letter 2 = .ok (.aload_n 0, 1) := by decide +kernel
theorem dL_letter_3 : decode cL_letter 3 = .ok (.iload_n 1, 1) := by decide +kernel
theorem dL_letter_4 : decode cL_letter 4 = .ok (.iload_n 2, 1) := by decide +kernel
theorem dL_letter_5 : decode cL_letter 5 = .ok (.invokevirtual 15, 3) := by decide +kernel
theorem dL_letter_8 : decode cL_letter 8 = .ok (.i2l, 1) := by decide +kernel
theorem dL_letter_9 : decode cL_letter 9 = .ok (.lastore, 1) := by decide +kernel
theorem dL_letter_10 : decode cL_letter 10 = .ok (.goto 7, 3) := by decide +kernel
theorem dL_letter_13 : decode cL_letter 13 = .ok (.astore 4, 2) := by decide +kernel
theorem dL_letter_15 : decode cL_letter 15 = .ok (.iconst 1, 1) := by decide +kernel
theorem dL_letter_16 : decode cL_letter 16 = .ok (.ireturn, 1) := by decide +kernel
theorem dL_letter_17 : decode cL_letter 17 = .ok (.iconst 0, 1) := by decide +kernel
theorem dL_letter_18 : decode cL_letter 18 = .ok (.ireturn, 1) := by decide +kernel
theorem dL_law_0 : decode cL_law 0 = .ok (.new 8, 3) := by decide +kernel
theorem dL_law_3 : decode cL_law 3 = .ok (.dup, 1) := by decide +kernel
theorem dL_law_4 : decode cL_law 4 = .ok (.invokespecial 18, 3) := by decide +kernel
theorem dL_law_7 : decode cL_law 7 = .ok (.astore_n 1, 1) := by decide +kernel
theorem dL_law_8 : decode cL_law 8 = .ok (.new 19, 3) := by decide +kernel
theorem dL_law_11 : decode cL_law 11 = .ok (.dup, 1) := by decide +kernel
theorem dL_law_12 : decode cL_law 12 = .ok (.invokespecial 21, 3) := by decide +kernel
theorem dL_law_15 : decode cL_law 15 = .ok (.astore_n 2, 1) := by decide +kernel
theorem dL_law_16 : decode cL_law 16 = .ok (.iconst 1, 1) := by decide +kernel
theorem dL_law_17 : decode cL_law 17 = .ok (.newarray .long, 2) := by decide +kernel
theorem dL_law_19 : decode cL_law 19 = .ok (.astore_n 3, 1) := by decide +kernel
theorem dL_law_20 : decode cL_law 20 = .ok (.iconst 0, 1) := by decide +kernel
theorem dL_law_21 : decode cL_law 21 = .ok (.istore 4, 2) := by decide +kernel
theorem dL_law_23 : decode cL_law 23 = .ok (.iload 4, 2) := by decide +kernel
theorem dL_law_25 : decode cL_law 25 = .ok (.aload_n 0, 1) := by decide +kernel
theorem dL_law_26 : decode cL_law 26 = .ok (.arraylength, 1) := by decide +kernel
theorem dL_law_27 : decode cL_law 27 = .ok (.iconst 4, 1) := by decide +kernel
theorem dL_law_28 : decode cL_law 28 = .ok (.isub, 1) := by decide +kernel
theorem dL_law_29 : decode cL_law 29 = .ok (.if_icmp .gt 771, 3) := by decide +kernel
theorem dL_law_32 : decode cL_law 32 = .ok (.aload_n 0, 1) := by decide +kernel
theorem dL_law_33 : decode cL_law 33 = .ok (.iload 4, 2) := by decide +kernel
theorem dL_law_35 : decode cL_law 35 = .ok (.iaload, 1) := by decide +kernel
theorem dL_law_36 : decode cL_law 36 = .ok (.bipush 31, 2) := by decide +kernel
theorem dL_law_38 : decode cL_law 38 = .ok (.iand, 1) := by decide +kernel
theorem dL_law_39 : decode cL_law 39 = .ok (.tableswitch 755 0 20 #[97, 146, 157, 194, 231, 256, 269, 294, 319, 387, 424, 449, 474, 542, 567, 592, 629, 666, 691, 717, 730], 97) := by decide +kernel
theorem dL_law_136 : decode cL_law 136 = .ok (.aload_n 1, 1) := by decide +kernel
theorem dL_law_137 : decode cL_law 137 = .ok (.aload_n 0, 1) := by decide +kernel
theorem dL_law_138 : decode cL_law 138 = .ok (.iload 4, 2) := by decide +kernel
theorem dL_law_140 : decode cL_law 140 = .ok (.iconst 1, 1) := by decide +kernel
theorem dL_law_141 : decode cL_law 141 = .ok (.iadd, 1) := by decide +kernel
theorem dL_law_142 : decode cL_law 142 = .ok (.iaload, 1) := by decide +kernel
theorem dL_law_143 : decode cL_law 143 = .ok (.aload_n 0, 1) := by decide +kernel
theorem dL_law_144 : decode cL_law 144 = .ok (.iload 4, 2) := by decide +kernel
theorem dL_law_146 : decode cL_law 146 = .ok (.iconst 2, 1) := by decide +kernel
theorem dL_law_147 : decode cL_law 147 = .ok (.iadd, 1) := by decide +kernel
theorem dL_law_148 : decode cL_law 148 = .ok (.iaload, 1) := by decide +kernel
theorem dL_law_149 : decode cL_law 149 = .ok (.aload_n 0, 1) := by decide +kernel
theorem dL_law_150 : decode cL_law 150 = .ok (.iload 4, 2) := by decide +kernel
theorem dL_law_152 : decode cL_law 152 = .ok (.iconst 3, 1) := by decide +kernel
theorem dL_law_153 : decode cL_law 153 = .ok (.iadd, 1) := by decide +kernel
theorem dL_law_154 : decode cL_law 154 = .ok (.iaload, 1) := by decide +kernel
theorem dL_law_155 : decode cL_law 155 = .ok (.invokevirtual 22, 3) := by decide +kernel
theorem dL_law_158 : decode cL_law 158 = .ok (.aload_n 2, 1) := by decide +kernel
theorem dL_law_159 : decode cL_law 159 = .ok (.aload_n 0, 1) := by decide +kernel
theorem dL_law_160 : decode cL_law 160 = .ok (.iload 4, 2) := by decide +kernel
theorem dL_law_162 : decode cL_law 162 = .ok (.iconst 1, 1) := by decide +kernel
theorem dL_law_163 : decode cL_law 163 = .ok (.iadd, 1) := by decide +kernel
theorem dL_law_164 : decode cL_law 164 = .ok (.iaload, 1) := by decide +kernel
theorem dL_law_165 : decode cL_law 165 = .ok (.aload_n 0, 1) := by decide +kernel
theorem dL_law_166 : decode cL_law 166 = .ok (.iload 4, 2) := by decide +kernel
theorem dL_law_168 : decode cL_law 168 = .ok (.iconst 2, 1) := by decide +kernel
theorem dL_law_169 : decode cL_law 169 = .ok (.iadd, 1) := by decide +kernel
theorem dL_law_170 : decode cL_law 170 = .ok (.iaload, 1) := by decide +kernel
theorem dL_law_171 : decode cL_law 171 = .ok (.aload_n 0, 1) := by decide +kernel
theorem dL_law_172 : decode cL_law 172 = .ok (.iload 4, 2) := by decide +kernel
theorem dL_law_174 : decode cL_law 174 = .ok (.iconst 3, 1) := by decide +kernel
theorem dL_law_175 : decode cL_law 175 = .ok (.iadd, 1) := by decide +kernel
theorem dL_law_176 : decode cL_law 176 = .ok (.iaload, 1) := by decide +kernel
theorem dL_law_177 : decode cL_law 177 = .ok (.invokevirtual 26, 3) := by decide +kernel
theorem dL_law_180 : decode cL_law 180 = .ok (.if_icmp .eq 614, 3) := by decide +kernel
theorem dL_law_183 : decode cL_law 183 = .ok (.iconst 0, 1) := by decide +kernel
theorem dL_law_184 : decode cL_law 184 = .ok (.ireturn, 1) := by decide +kernel
theorem dL_law_185 : decode cL_law 185 = .ok (.aload_n 1, 1) := by decide +kernel
theorem dL_law_186 : decode cL_law 186 = .ok (.invokevirtual 27, 3) := by decide +kernel
theorem dL_law_189 : decode cL_law 189 = .ok (.aload_n 2, 1) := by decide +kernel
theorem dL_law_190 : decode cL_law 190 = .ok (.invokevirtual 30, 3) := by decide +kernel
theorem dL_law_193 : decode cL_law 193 = .ok (.goto 601, 3) := by decide +kernel
theorem dL_law_196 : decode cL_law 196 = .ok (.aload_n 1, 1) := by decide +kernel
theorem dL_law_197 : decode cL_law 197 = .ok (.aload_n 0, 1) := by decide +kernel
theorem dL_law_198 : decode cL_law 198 = .ok (.iload 4, 2) := by decide +kernel
theorem dL_law_200 : decode cL_law 200 = .ok (.iconst 1, 1) := by decide +kernel
theorem dL_law_201 : decode cL_law 201 = .ok (.iadd, 1) := by decide +kernel
theorem dL_law_202 : decode cL_law 202 = .ok (.iaload, 1) := by decide +kernel
theorem dL_law_203 : decode cL_law 203 = .ok (.aload_n 0, 1) := by decide +kernel
theorem dL_law_204 : decode cL_law 204 = .ok (.iload 4, 2) := by decide +kernel
theorem dL_law_206 : decode cL_law 206 = .ok (.iconst 2, 1) := by decide +kernel
theorem dL_law_207 : decode cL_law 207 = .ok (.iadd, 1) := by decide +kernel
theorem dL_law_208 : decode cL_law 208 = .ok (.iaload, 1) := by decide +kernel
theorem dL_law_209 : decode cL_law 209 = .ok (.invokevirtual 31, 3) := by decide +kernel
theorem dL_law_212 : decode cL_law 212 = .ok (.aload_n 2, 1) := by decide +kernel
theorem dL_law_213 : decode cL_law 213 = .ok (.aload_n 0, 1) := by decide +kernel
theorem dL_law_214 : decode cL_law 214 = .ok (.iload 4, 2) := by decide +kernel
theorem dL_law_216 : decode cL_law 216 = .ok (.iconst 1, 1) := by decide +kernel
theorem dL_law_217 : decode cL_law 217 = .ok (.iadd, 1) := by decide +kernel
theorem dL_law_218 : decode cL_law 218 = .ok (.iaload, 1) := by decide +kernel
theorem dL_law_219 : decode cL_law 219 = .ok (.aload_n 0, 1) := by decide +kernel
theorem dL_law_220 : decode cL_law 220 = .ok (.iload 4, 2) := by decide +kernel
theorem dL_law_222 : decode cL_law 222 = .ok (.iconst 2, 1) := by decide +kernel
theorem dL_law_223 : decode cL_law 223 = .ok (.iadd, 1) := by decide +kernel
theorem dL_law_224 : decode cL_law 224 = .ok (.iaload, 1) := by decide +kernel
theorem dL_law_225 : decode cL_law 225 = .ok (.invokevirtual 34, 3) := by decide +kernel
theorem dL_law_228 : decode cL_law 228 = .ok (.if_icmp .eq 566, 3) := by decide +kernel
theorem dL_law_231 : decode cL_law 231 = .ok (.iconst 0, 1) := by decide +kernel
theorem dL_law_232 : decode cL_law 232 = .ok (.ireturn, 1) := by decide +kernel
theorem dL_law_233 : decode cL_law 233 = .ok (.aload_n 1, 1) := by decide +kernel
theorem dL_law_234 : decode cL_law 234 = .ok (.aload_n 0, 1) := by decide +kernel
theorem dL_law_235 : decode cL_law 235 = .ok (.iload 4, 2) := by decide +kernel
theorem dL_law_237 : decode cL_law 237 = .ok (.iconst 1, 1) := by decide +kernel
theorem dL_law_238 : decode cL_law 238 = .ok (.iadd, 1) := by decide +kernel
theorem dL_law_239 : decode cL_law 239 = .ok (.iaload, 1) := by decide +kernel
theorem dL_law_240 : decode cL_law 240 = .ok (.aload_n 0, 1) := by decide +kernel
theorem dL_law_241 : decode cL_law 241 = .ok (.iload 4, 2) := by decide +kernel
theorem dL_law_243 : decode cL_law 243 = .ok (.iconst 2, 1) := by decide +kernel
theorem dL_law_244 : decode cL_law 244 = .ok (.iadd, 1) := by decide +kernel
theorem dL_law_245 : decode cL_law 245 = .ok (.iaload, 1) := by decide +kernel
theorem dL_law_246 : decode cL_law 246 = .ok (.invokevirtual 35, 3) := by decide +kernel
theorem dL_law_249 : decode cL_law 249 = .ok (.aload_n 2, 1) := by decide +kernel
theorem dL_law_250 : decode cL_law 250 = .ok (.aload_n 0, 1) := by decide +kernel
theorem dL_law_251 : decode cL_law 251 = .ok (.iload 4, 2) := by decide +kernel
theorem dL_law_253 : decode cL_law 253 = .ok (.iconst 1, 1) := by decide +kernel
theorem dL_law_254 : decode cL_law 254 = .ok (.iadd, 1) := by decide +kernel
theorem dL_law_255 : decode cL_law 255 = .ok (.iaload, 1) := by decide +kernel
theorem dL_law_256 : decode cL_law 256 = .ok (.aload_n 0, 1) := by decide +kernel
theorem dL_law_257 : decode cL_law 257 = .ok (.iload 4, 2) := by decide +kernel
theorem dL_law_259 : decode cL_law 259 = .ok (.iconst 2, 1) := by decide +kernel
theorem dL_law_260 : decode cL_law 260 = .ok (.iadd, 1) := by decide +kernel
theorem dL_law_261 : decode cL_law 261 = .ok (.iaload, 1) := by decide +kernel
theorem dL_law_262 : decode cL_law 262 = .ok (.invokevirtual 39, 3) := by decide +kernel
theorem dL_law_265 : decode cL_law 265 = .ok (.if_icmp .eq 529, 3) := by decide +kernel
theorem dL_law_268 : decode cL_law 268 = .ok (.iconst 0, 1) := by decide +kernel
theorem dL_law_269 : decode cL_law 269 = .ok (.ireturn, 1) := by decide +kernel
theorem dL_law_270 : decode cL_law 270 = .ok (.aload_n 1, 1) := by decide +kernel
theorem dL_law_271 : decode cL_law 271 = .ok (.aload_n 0, 1) := by decide +kernel
theorem dL_law_272 : decode cL_law 272 = .ok (.iload 4, 2) := by decide +kernel
theorem dL_law_274 : decode cL_law 274 = .ok (.iconst 1, 1) := by decide +kernel
theorem dL_law_275 : decode cL_law 275 = .ok (.iadd, 1) := by decide +kernel
theorem dL_law_276 : decode cL_law 276 = .ok (.iaload, 1) := by decide +kernel
theorem dL_law_277 : decode cL_law 277 = .ok (.invokevirtual 40, 3) := by decide +kernel
theorem dL_law_280 : decode cL_law 280 = .ok (.aload_n 2, 1) := by decide +kernel
theorem dL_law_281 : decode cL_law 281 = .ok (.aload_n 0, 1) := by decide +kernel
theorem dL_law_282 : decode cL_law 282 = .ok (.iload 4, 2) := by decide +kernel
theorem dL_law_284 : decode cL_law 284 = .ok (.iconst 1, 1) := by decide +kernel
theorem dL_law_285 : decode cL_law 285 = .ok (.iadd, 1) := by decide +kernel
theorem dL_law_286 : decode cL_law 286 = .ok (.iaload, 1) := by decide +kernel
theorem dL_law_287 : decode cL_law 287 = .ok (.invokevirtual 44, 3) := by decide +kernel
theorem dL_law_290 : decode cL_law 290 = .ok (.if_icmp .eq 504, 3) := by decide +kernel
theorem dL_law_293 : decode cL_law 293 = .ok (.iconst 0, 1) := by decide +kernel
theorem dL_law_294 : decode cL_law 294 = .ok (.ireturn, 1) := by decide +kernel
theorem dL_law_295 : decode cL_law 295 = .ok (.aload_n 1, 1) := by decide +kernel
theorem dL_law_296 : decode cL_law 296 = .ok (.invokevirtual 45, 3) := by decide +kernel
theorem dL_law_299 : decode cL_law 299 = .ok (.aload_n 2, 1) := by decide +kernel
theorem dL_law_300 : decode cL_law 300 = .ok (.invokevirtual 49, 3) := by decide +kernel
theorem dL_law_303 : decode cL_law 303 = .ok (.if_icmp .eq 491, 3) := by decide +kernel
theorem dL_law_306 : decode cL_law 306 = .ok (.iconst 0, 1) := by decide +kernel
theorem dL_law_307 : decode cL_law 307 = .ok (.ireturn, 1) := by decide +kernel
theorem dL_law_308 : decode cL_law 308 = .ok (.aload_n 1, 1) := by decide +kernel
theorem dL_law_309 : decode cL_law 309 = .ok (.aload_n 0, 1) := by decide +kernel
theorem dL_law_310 : decode cL_law 310 = .ok (.iload 4, 2) := by decide +kernel
theorem dL_law_312 : decode cL_law 312 = .ok (.iconst 1, 1) := by decide +kernel
theorem dL_law_313 : decode cL_law 313 = .ok (.iadd, 1) := by decide +kernel
theorem dL_law_314 : decode cL_law 314 = .ok (.iaload, 1) := by decide +kernel
theorem dL_law_315 : decode cL_law 315 = .ok (.invokevirtual 50, 3) := by decide +kernel
theorem dL_law_318 : decode cL_law 318 = .ok (.aload_n 2, 1) := by decide +kernel
theorem dL_law_319 : decode cL_law 319 = .ok (.aload_n 0, 1) := by decide +kernel
theorem dL_law_320 : decode cL_law 320 = .ok (.iload 4, 2) := by decide +kernel
theorem dL_law_322 : decode cL_law 322 = .ok (.iconst 1, 1) := by decide +kernel
theorem dL_law_323 : decode cL_law 323 = .ok (.iadd, 1) := by decide +kernel
theorem dL_law_324 : decode cL_law 324 = .ok (.iaload, 1) := by decide +kernel
theorem dL_law_325 : decode cL_law 325 = .ok (.invokevirtual 53, 3) := by decide +kernel
theorem dL_law_328 : decode cL_law 328 = .ok (.if_icmp .eq 466, 3) := by decide +kernel
theorem dL_law_331 : decode cL_law 331 = .ok (.iconst 0, 1) := by decide +kernel
theorem dL_law_332 : decode cL_law 332 = .ok (.ireturn, 1) := by decide +kernel
theorem dL_law_333 : decode cL_law 333 = .ok (.aload_n 1, 1) := by decide +kernel
theorem dL_law_334 : decode cL_law 334 = .ok (.aload_n 0, 1) := by decide +kernel
theorem dL_law_335 : decode cL_law 335 = .ok (.iload 4, 2) := by decide +kernel
theorem dL_law_337 : decode cL_law 337 = .ok (.iconst 1, 1) := by decide +kernel
theorem dL_law_338 : decode cL_law 338 = .ok (.iadd, 1) := by decide +kernel
theorem dL_law_339 : decode cL_law 339 = .ok (.iaload, 1) := by decide +kernel
theorem dL_law_340 : decode cL_law 340 = .ok (.invokevirtual 54, 3) := by decide +kernel
theorem dL_law_343 : decode cL_law 343 = .ok (.aload_n 2, 1) := by decide +kernel
theorem dL_law_344 : decode cL_law 344 = .ok (.aload_n 0, 1) := by decide +kernel
theorem dL_law_345 : decode cL_law 345 = .ok (.iload 4, 2) := by decide +kernel
theorem dL_law_347 : decode cL_law 347 = .ok (.iconst 1, 1) := by decide +kernel
theorem dL_law_348 : decode cL_law 348 = .ok (.iadd, 1) := by decide +kernel
theorem dL_law_349 : decode cL_law 349 = .ok (.iaload, 1) := by decide +kernel
theorem dL_law_350 : decode cL_law 350 = .ok (.invokevirtual 57, 3) := by decide +kernel
theorem dL_law_353 : decode cL_law 353 = .ok (.if_icmp .eq 441, 3) := by decide +kernel
theorem dL_law_356 : decode cL_law 356 = .ok (.iconst 0, 1) := by decide +kernel
theorem dL_law_357 : decode cL_law 357 = .ok (.ireturn, 1) := by decide +kernel
theorem dL_law_358 : decode cL_law 358 = .ok (.aload_n 1, 1) := by decide +kernel
theorem dL_law_359 : decode cL_law 359 = .ok (.aload_n 0, 1) := by decide +kernel
theorem dL_law_360 : decode cL_law 360 = .ok (.iload 4, 2) := by decide +kernel
theorem dL_law_362 : decode cL_law 362 = .ok (.iconst 1, 1) := by decide +kernel
theorem dL_law_363 : decode cL_law 363 = .ok (.iadd, 1) := by decide +kernel
theorem dL_law_364 : decode cL_law 364 = .ok (.iaload, 1) := by decide +kernel
theorem dL_law_365 : decode cL_law 365 = .ok (.aload_n 0, 1) := by decide +kernel
theorem dL_law_366 : decode cL_law 366 = .ok (.iload 4, 2) := by decide +kernel
theorem dL_law_368 : decode cL_law 368 = .ok (.iconst 2, 1) := by decide +kernel
theorem dL_law_369 : decode cL_law 369 = .ok (.iadd, 1) := by decide +kernel
theorem dL_law_370 : decode cL_law 370 = .ok (.iaload, 1) := by decide +kernel
theorem dL_law_371 : decode cL_law 371 = .ok (.aload_n 3, 1) := by decide +kernel
theorem dL_law_372 : decode cL_law 372 = .ok (.invokestatic 58, 3) := by decide +kernel
theorem dL_law_375 : decode cL_law 375 = .ok (.istore 5, 2) := by decide +kernel
theorem dL_law_377 : decode cL_law 377 = .ok (.aload_n 2, 1) := by decide +kernel
theorem dL_law_378 : decode cL_law 378 = .ok (.aload_n 0, 1) := by decide +kernel
theorem dL_law_379 : decode cL_law 379 = .ok (.iload 4, 2) := by decide +kernel
theorem dL_law_381 : decode cL_law 381 = .ok (.iconst 1, 1) := by decide +kernel
theorem dL_law_382 : decode cL_law 382 = .ok (.iadd, 1) := by decide +kernel
theorem dL_law_383 : decode cL_law 383 = .ok (.iaload, 1) := by decide +kernel
theorem dL_law_384 : decode cL_law 384 = .ok (.aload_n 0, 1) := by decide +kernel
theorem dL_law_385 : decode cL_law 385 = .ok (.iload 4, 2) := by decide +kernel
theorem dL_law_387 : decode cL_law 387 = .ok (.iconst 2, 1) := by decide +kernel
theorem dL_law_388 : decode cL_law 388 = .ok (.iadd, 1) := by decide +kernel
theorem dL_law_389 : decode cL_law 389 = .ok (.iaload, 1) := by decide +kernel
theorem dL_law_390 : decode cL_law 390 = .ok (.invokevirtual 63, 3) := by decide +kernel
theorem dL_law_393 : decode cL_law 393 = .ok (.istore 6, 2) := by decide +kernel
theorem dL_law_395 : decode cL_law 395 = .ok (.aload_n 2, 1) := by decide +kernel
theorem dL_law_396 : decode cL_law 396 = .ok (.invokevirtual 64, 3) := by decide +kernel
theorem dL_law_399 : decode cL_law 399 = .ok (.iload 5, 2) := by decide +kernel
theorem dL_law_401 : decode cL_law 401 = .ok (.if_icmp .eq 5, 3) := by decide +kernel
theorem dL_law_404 : decode cL_law 404 = .ok (.iconst 0, 1) := by decide +kernel
theorem dL_law_405 : decode cL_law 405 = .ok (.ireturn, 1) := by decide +kernel
theorem dL_law_406 : decode cL_law 406 = .ok (.iload 5, 2) := by decide +kernel
theorem dL_law_408 : decode cL_law 408 = .ok (.ifCond .ne 15, 3) := by decide +kernel
theorem dL_law_411 : decode cL_law 411 = .ok (.aload_n 3, 1) := by decide +kernel
theorem dL_law_412 : decode cL_law 412 = .ok (.iconst 0, 1) := by decide +kernel
theorem dL_law_413 : decode cL_law 413 = .ok (.laload, 1) := by decide +kernel
theorem dL_law_414 : decode cL_law 414 = .ok (.iload 6, 2) := by decide +kernel
theorem dL_law_416 : decode cL_law 416 = .ok (.i2l, 1) := by decide +kernel
theorem dL_law_417 : decode cL_law 417 = .ok (.lcmp, 1) := by decide +kernel
theorem dL_law_418 : decode cL_law 418 = .ok (.ifCond .eq 5, 3) := by decide +kernel
theorem dL_law_421 : decode cL_law 421 = .ok (.iconst 0, 1) := by decide +kernel
theorem dL_law_422 : decode cL_law 422 = .ok (.ireturn, 1) := by decide +kernel
theorem dL_law_423 : decode cL_law 423 = .ok (.goto 371, 3) := by decide +kernel
theorem dL_law_426 : decode cL_law 426 = .ok (.aload_n 1, 1) := by decide +kernel
theorem dL_law_427 : decode cL_law 427 = .ok (.aload_n 0, 1) := by decide +kernel
theorem dL_law_428 : decode cL_law 428 = .ok (.iload 4, 2) := by decide +kernel
theorem dL_law_430 : decode cL_law 430 = .ok (.iconst 1, 1) := by decide +kernel
theorem dL_law_431 : decode cL_law 431 = .ok (.iadd, 1) := by decide +kernel
theorem dL_law_432 : decode cL_law 432 = .ok (.iaload, 1) := by decide +kernel
theorem dL_law_433 : decode cL_law 433 = .ok (.aload_n 0, 1) := by decide +kernel
theorem dL_law_434 : decode cL_law 434 = .ok (.iload 4, 2) := by decide +kernel
theorem dL_law_436 : decode cL_law 436 = .ok (.iconst 2, 1) := by decide +kernel
theorem dL_law_437 : decode cL_law 437 = .ok (.iadd, 1) := by decide +kernel
theorem dL_law_438 : decode cL_law 438 = .ok (.iaload, 1) := by decide +kernel
theorem dL_law_439 : decode cL_law 439 = .ok (.invokevirtual 67, 3) := by decide +kernel
theorem dL_law_442 : decode cL_law 442 = .ok (.aload_n 2, 1) := by decide +kernel
theorem dL_law_443 : decode cL_law 443 = .ok (.aload_n 0, 1) := by decide +kernel
theorem dL_law_444 : decode cL_law 444 = .ok (.iload 4, 2) := by decide +kernel
theorem dL_law_446 : decode cL_law 446 = .ok (.iconst 1, 1) := by decide +kernel
theorem dL_law_447 : decode cL_law 447 = .ok (.iadd, 1) := by decide +kernel
theorem dL_law_448 : decode cL_law 448 = .ok (.iaload, 1) := by decide +kernel
theorem dL_law_449 : decode cL_law 449 = .ok (.aload_n 0, 1) := by decide +kernel
theorem dL_law_450 : decode cL_law 450 = .ok (.iload 4, 2) := by decide +kernel
theorem dL_law_452 : decode cL_law 452 = .ok (.iconst 2, 1) := by decide +kernel
theorem dL_law_453 : decode cL_law 453 = .ok (.iadd, 1) := by decide +kernel
theorem dL_law_454 : decode cL_law 454 = .ok (.iaload, 1) := by decide +kernel
theorem dL_law_455 : decode cL_law 455 = .ok (.invokevirtual 70, 3) := by decide +kernel
theorem dL_law_458 : decode cL_law 458 = .ok (.if_icmp .eq 336, 3) := by decide +kernel
theorem dL_law_461 : decode cL_law 461 = .ok (.iconst 0, 1) := by decide +kernel
theorem dL_law_462 : decode cL_law 462 = .ok (.ireturn, 1) := by decide +kernel
theorem dL_law_463 : decode cL_law 463 = .ok (.aload_n 1, 1) := by decide +kernel
theorem dL_law_464 : decode cL_law 464 = .ok (.aload_n 0, 1) := by decide +kernel
theorem dL_law_465 : decode cL_law 465 = .ok (.iload 4, 2) := by decide +kernel
theorem dL_law_467 : decode cL_law 467 = .ok (.iconst 1, 1) := by decide +kernel
theorem dL_law_468 : decode cL_law 468 = .ok (.iadd, 1) := by decide +kernel
theorem dL_law_469 : decode cL_law 469 = .ok (.iaload, 1) := by decide +kernel
theorem dL_law_470 : decode cL_law 470 = .ok (.invokevirtual 71, 3) := by decide +kernel
theorem dL_law_473 : decode cL_law 473 = .ok (.aload_n 2, 1) := by decide +kernel
theorem dL_law_474 : decode cL_law 474 = .ok (.aload_n 0, 1) := by decide +kernel
theorem dL_law_475 : decode cL_law 475 = .ok (.iload 4, 2) := by decide +kernel
theorem dL_law_477 : decode cL_law 477 = .ok (.iconst 1, 1) := by decide +kernel
theorem dL_law_478 : decode cL_law 478 = .ok (.iadd, 1) := by decide +kernel
theorem dL_law_479 : decode cL_law 479 = .ok (.iaload, 1) := by decide +kernel
theorem dL_law_480 : decode cL_law 480 = .ok (.invokevirtual 75, 3) := by decide +kernel
theorem dL_law_483 : decode cL_law 483 = .ok (.if_icmp .eq 311, 3) := by decide +kernel
theorem dL_law_486 : decode cL_law 486 = .ok (.iconst 0, 1) := by decide +kernel
theorem dL_law_487 : decode cL_law 487 = .ok (.ireturn, 1) := by decide +kernel
theorem dL_law_488 : decode cL_law 488 = .ok (.aload_n 1, 1) := by decide +kernel
theorem dL_law_489 : decode cL_law 489 = .ok (.aload_n 0, 1) := by decide +kernel
theorem dL_law_490 : decode cL_law 490 = .ok (.iload 4, 2) := by decide +kernel
theorem dL_law_492 : decode cL_law 492 = .ok (.iconst 1, 1) := by decide +kernel
theorem dL_law_493 : decode cL_law 493 = .ok (.iadd, 1) := by decide +kernel
theorem dL_law_494 : decode cL_law 494 = .ok (.iaload, 1) := by decide +kernel
theorem dL_law_495 : decode cL_law 495 = .ok (.invokevirtual 76, 3) := by decide +kernel
theorem dL_law_498 : decode cL_law 498 = .ok (.aload_n 2, 1) := by decide +kernel
theorem dL_law_499 : decode cL_law 499 = .ok (.aload_n 0, 1) := by decide +kernel
theorem dL_law_500 : decode cL_law 500 = .ok (.iload 4, 2) := by decide +kernel
theorem dL_law_502 : decode cL_law 502 = .ok (.iconst 1, 1) := by decide +kernel
theorem dL_law_503 : decode cL_law 503 = .ok (.iadd, 1) := by decide +kernel
theorem dL_law_504 : decode cL_law 504 = .ok (.iaload, 1) := by decide +kernel
theorem dL_law_505 : decode cL_law 505 = .ok (.invokevirtual 79, 3) := by decide +kernel
theorem dL_law_508 : decode cL_law 508 = .ok (.if_icmp .eq 286, 3) := by decide +kernel
theorem dL_law_511 : decode cL_law 511 = .ok (.iconst 0, 1) := by decide +kernel
theorem dL_law_512 : decode cL_law 512 = .ok (.ireturn, 1) := by decide +kernel
theorem dL_law_513 : decode cL_law 513 = .ok (.aload_n 1, 1) := by decide +kernel
theorem dL_law_514 : decode cL_law 514 = .ok (.aload_n 0, 1) := by decide +kernel
theorem dL_law_515 : decode cL_law 515 = .ok (.iload 4, 2) := by decide +kernel
theorem dL_law_517 : decode cL_law 517 = .ok (.iconst 1, 1) := by decide +kernel
theorem dL_law_518 : decode cL_law 518 = .ok (.iadd, 1) := by decide +kernel
theorem dL_law_519 : decode cL_law 519 = .ok (.iaload, 1) := by decide +kernel
theorem dL_law_520 : decode cL_law 520 = .ok (.aload_n 0, 1) := by decide +kernel
theorem dL_law_521 : decode cL_law 521 = .ok (.iload 4, 2) := by decide +kernel
theorem dL_law_523 : decode cL_law 523 = .ok (.iconst 2, 1) := by decide +kernel
theorem dL_law_524 : decode cL_law 524 = .ok (.iadd, 1) := by decide +kernel
theorem dL_law_525 : decode cL_law 525 = .ok (.iaload, 1) := by decide +kernel
theorem dL_law_526 : decode cL_law 526 = .ok (.aload_n 3, 1) := by decide +kernel
theorem dL_law_527 : decode cL_law 527 = .ok (.invokestatic 80, 3) := by decide +kernel
theorem dL_law_530 : decode cL_law 530 = .ok (.istore 5, 2) := by decide +kernel
theorem dL_law_532 : decode cL_law 532 = .ok (.aload_n 2, 1) := by decide +kernel
theorem dL_law_533 : decode cL_law 533 = .ok (.aload_n 0, 1) := by decide +kernel
theorem dL_law_534 : decode cL_law 534 = .ok (.iload 4, 2) := by decide +kernel
theorem dL_law_536 : decode cL_law 536 = .ok (.iconst 1, 1) := by decide +kernel
theorem dL_law_537 : decode cL_law 537 = .ok (.iadd, 1) := by decide +kernel
theorem dL_law_538 : decode cL_law 538 = .ok (.iaload, 1) := by decide +kernel
theorem dL_law_539 : decode cL_law 539 = .ok (.aload_n 0, 1) := by decide +kernel
theorem dL_law_540 : decode cL_law 540 = .ok (.iload 4, 2) := by decide +kernel
theorem dL_law_542 : decode cL_law 542 = .ok (.iconst 2, 1) := by decide +kernel
theorem dL_law_543 : decode cL_law 543 = .ok (.iadd, 1) := by decide +kernel
theorem dL_law_544 : decode cL_law 544 = .ok (.iaload, 1) := by decide +kernel
theorem dL_law_545 : decode cL_law 545 = .ok (.invokevirtual 82, 3) := by decide +kernel
theorem dL_law_548 : decode cL_law 548 = .ok (.istore 6, 2) := by decide +kernel
theorem dL_law_550 : decode cL_law 550 = .ok (.aload_n 2, 1) := by decide +kernel
theorem dL_law_551 : decode cL_law 551 = .ok (.invokevirtual 64, 3) := by decide +kernel
theorem dL_law_554 : decode cL_law 554 = .ok (.iload 5, 2) := by decide +kernel
theorem dL_law_556 : decode cL_law 556 = .ok (.if_icmp .eq 5, 3) := by decide +kernel
theorem dL_law_559 : decode cL_law 559 = .ok (.iconst 0, 1) := by decide +kernel
theorem dL_law_560 : decode cL_law 560 = .ok (.ireturn, 1) := by decide +kernel
theorem dL_law_561 : decode cL_law 561 = .ok (.iload 5, 2) := by decide +kernel
theorem dL_law_563 : decode cL_law 563 = .ok (.ifCond .ne 15, 3) := by decide +kernel
theorem dL_law_566 : decode cL_law 566 = .ok (.aload_n 3, 1) := by decide +kernel
theorem dL_law_567 : decode cL_law 567 = .ok (.iconst 0, 1) := by decide +kernel
theorem dL_law_568 : decode cL_law 568 = .ok (.laload, 1) := by decide +kernel
theorem dL_law_569 : decode cL_law 569 = .ok (.iload 6, 2) := by decide +kernel
theorem dL_law_571 : decode cL_law 571 = .ok (.i2l, 1) := by decide +kernel
theorem dL_law_572 : decode cL_law 572 = .ok (.lcmp, 1) := by decide +kernel
theorem dL_law_573 : decode cL_law 573 = .ok (.ifCond .eq 5, 3) := by decide +kernel
theorem dL_law_576 : decode cL_law 576 = .ok (.iconst 0, 1) := by decide +kernel
theorem dL_law_577 : decode cL_law 577 = .ok (.ireturn, 1) := by decide +kernel
theorem dL_law_578 : decode cL_law 578 = .ok (.goto 216, 3) := by decide +kernel
theorem dL_law_581 : decode cL_law 581 = .ok (.aload_n 1, 1) := by decide +kernel
theorem dL_law_582 : decode cL_law 582 = .ok (.aload_n 0, 1) := by decide +kernel
theorem dL_law_583 : decode cL_law 583 = .ok (.iload 4, 2) := by decide +kernel
theorem dL_law_585 : decode cL_law 585 = .ok (.iconst 1, 1) := by decide +kernel
theorem dL_law_586 : decode cL_law 586 = .ok (.iadd, 1) := by decide +kernel
theorem dL_law_587 : decode cL_law 587 = .ok (.iaload, 1) := by decide +kernel
theorem dL_law_588 : decode cL_law 588 = .ok (.invokevirtual 83, 3) := by decide +kernel
theorem dL_law_591 : decode cL_law 591 = .ok (.aload_n 2, 1) := by decide +kernel
theorem dL_law_592 : decode cL_law 592 = .ok (.aload_n 0, 1) := by decide +kernel
theorem dL_law_593 : decode cL_law 593 = .ok (.iload 4, 2) := by decide +kernel
theorem dL_law_595 : decode cL_law 595 = .ok (.iconst 1, 1) := by decide +kernel
theorem dL_law_596 : decode cL_law 596 = .ok (.iadd, 1) := by decide +kernel
theorem dL_law_597 : decode cL_law 597 = .ok (.iaload, 1) := by decide +kernel
theorem dL_law_598 : decode cL_law 598 = .ok (.invokevirtual 86, 3) := by decide +kernel
theorem dL_law_601 : decode cL_law 601 = .ok (.if_icmp .eq 193, 3) := by decide +kernel
theorem dL_law_604 : decode cL_law 604 = .ok (.iconst 0, 1) := by decide +kernel
theorem dL_law_605 : decode cL_law 605 = .ok (.ireturn, 1) := by decide +kernel
theorem dL_law_606 : decode cL_law 606 = .ok (.aload_n 1, 1) := by decide +kernel
theorem dL_law_607 : decode cL_law 607 = .ok (.aload_n 0, 1) := by decide +kernel
theorem dL_law_608 : decode cL_law 608 = .ok (.iload 4, 2) := by decide +kernel
theorem dL_law_610 : decode cL_law 610 = .ok (.iconst 1, 1) := by decide +kernel
theorem dL_law_611 : decode cL_law 611 = .ok (.iadd, 1) := by decide +kernel
theorem dL_law_612 : decode cL_law 612 = .ok (.iaload, 1) := by decide +kernel
theorem dL_law_613 : decode cL_law 613 = .ok (.invokevirtual 87, 3) := by decide +kernel
theorem dL_law_616 : decode cL_law 616 = .ok (.aload_n 2, 1) := by decide +kernel
theorem dL_law_617 : decode cL_law 617 = .ok (.aload_n 0, 1) := by decide +kernel
theorem dL_law_618 : decode cL_law 618 = .ok (.iload 4, 2) := by decide +kernel
theorem dL_law_620 : decode cL_law 620 = .ok (.iconst 1, 1) := by decide +kernel
theorem dL_law_621 : decode cL_law 621 = .ok (.iadd, 1) := by decide +kernel
theorem dL_law_622 : decode cL_law 622 = .ok (.iaload, 1) := by decide +kernel
theorem dL_law_623 : decode cL_law 623 = .ok (.invokevirtual 90, 3) := by decide +kernel
theorem dL_law_626 : decode cL_law 626 = .ok (.if_icmp .eq 168, 3) := by decide +kernel
theorem dL_law_629 : decode cL_law 629 = .ok (.iconst 0, 1) := by decide +kernel
theorem dL_law_630 : decode cL_law 630 = .ok (.ireturn, 1) := by decide +kernel
theorem dL_law_631 : decode cL_law 631 = .ok (.aload_n 1, 1) := by decide +kernel
theorem dL_law_632 : decode cL_law 632 = .ok (.aload_n 0, 1) := by decide +kernel
theorem dL_law_633 : decode cL_law 633 = .ok (.iload 4, 2) := by decide +kernel
theorem dL_law_635 : decode cL_law 635 = .ok (.iconst 1, 1) := by decide +kernel
theorem dL_law_636 : decode cL_law 636 = .ok (.iadd, 1) := by decide +kernel
theorem dL_law_637 : decode cL_law 637 = .ok (.iaload, 1) := by decide +kernel
theorem dL_law_638 : decode cL_law 638 = .ok (.aload_n 0, 1) := by decide +kernel
theorem dL_law_639 : decode cL_law 639 = .ok (.iload 4, 2) := by decide +kernel
theorem dL_law_641 : decode cL_law 641 = .ok (.iconst 2, 1) := by decide +kernel
theorem dL_law_642 : decode cL_law 642 = .ok (.iadd, 1) := by decide +kernel
theorem dL_law_643 : decode cL_law 643 = .ok (.iaload, 1) := by decide +kernel
theorem dL_law_644 : decode cL_law 644 = .ok (.invokevirtual 91, 3) := by decide +kernel
theorem dL_law_647 : decode cL_law 647 = .ok (.aload_n 2, 1) := by decide +kernel
theorem dL_law_648 : decode cL_law 648 = .ok (.aload_n 0, 1) := by decide +kernel
theorem dL_law_649 : decode cL_law 649 = .ok (.iload 4, 2) := by decide +kernel
theorem dL_law_651 : decode cL_law 651 = .ok (.iconst 1, 1) := by decide +kernel
theorem dL_law_652 : decode cL_law 652 = .ok (.iadd, 1) := by decide +kernel
theorem dL_law_653 : decode cL_law 653 = .ok (.iaload, 1) := by decide +kernel
theorem dL_law_654 : decode cL_law 654 = .ok (.aload_n 0, 1) := by decide +kernel
theorem dL_law_655 : decode cL_law 655 = .ok (.iload 4, 2) := by decide +kernel
theorem dL_law_657 : decode cL_law 657 = .ok (.iconst 2, 1) := by decide +kernel
theorem dL_law_658 : decode cL_law 658 = .ok (.iadd, 1) := by decide +kernel
theorem dL_law_659 : decode cL_law 659 = .ok (.iaload, 1) := by decide +kernel
theorem dL_law_660 : decode cL_law 660 = .ok (.invokevirtual 94, 3) := by decide +kernel
theorem dL_law_663 : decode cL_law 663 = .ok (.if_icmp .eq 131, 3) := by decide +kernel
theorem dL_law_666 : decode cL_law 666 = .ok (.iconst 0, 1) := by decide +kernel
theorem dL_law_667 : decode cL_law 667 = .ok (.ireturn, 1) := by decide +kernel
theorem dL_law_668 : decode cL_law 668 = .ok (.aload_n 1, 1) := by decide +kernel
theorem dL_law_669 : decode cL_law 669 = .ok (.aload_n 0, 1) := by decide +kernel
theorem dL_law_670 : decode cL_law 670 = .ok (.iload 4, 2) := by decide +kernel
theorem dL_law_672 : decode cL_law 672 = .ok (.iconst 1, 1) := by decide +kernel
theorem dL_law_673 : decode cL_law 673 = .ok (.iadd, 1) := by decide +kernel
theorem dL_law_674 : decode cL_law 674 = .ok (.iaload, 1) := by decide +kernel
theorem dL_law_675 : decode cL_law 675 = .ok (.aload_n 0, 1) := by decide +kernel
theorem dL_law_676 : decode cL_law 676 = .ok (.iload 4, 2) := by decide +kernel
theorem dL_law_678 : decode cL_law 678 = .ok (.iconst 2, 1) := by decide +kernel
theorem dL_law_679 : decode cL_law 679 = .ok (.iadd, 1) := by decide +kernel
theorem dL_law_680 : decode cL_law 680 = .ok (.iaload, 1) := by decide +kernel
theorem dL_law_681 : decode cL_law 681 = .ok (.invokevirtual 95, 3) := by decide +kernel
theorem dL_law_684 : decode cL_law 684 = .ok (.aload_n 2, 1) := by decide +kernel
theorem dL_law_685 : decode cL_law 685 = .ok (.aload_n 0, 1) := by decide +kernel
theorem dL_law_686 : decode cL_law 686 = .ok (.iload 4, 2) := by decide +kernel
theorem dL_law_688 : decode cL_law 688 = .ok (.iconst 1, 1) := by decide +kernel
theorem dL_law_689 : decode cL_law 689 = .ok (.iadd, 1) := by decide +kernel
theorem dL_law_690 : decode cL_law 690 = .ok (.iaload, 1) := by decide +kernel
theorem dL_law_691 : decode cL_law 691 = .ok (.aload_n 0, 1) := by decide +kernel
theorem dL_law_692 : decode cL_law 692 = .ok (.iload 4, 2) := by decide +kernel
theorem dL_law_694 : decode cL_law 694 = .ok (.iconst 2, 1) := by decide +kernel
theorem dL_law_695 : decode cL_law 695 = .ok (.iadd, 1) := by decide +kernel
theorem dL_law_696 : decode cL_law 696 = .ok (.iaload, 1) := by decide +kernel
theorem dL_law_697 : decode cL_law 697 = .ok (.invokevirtual 98, 3) := by decide +kernel
theorem dL_law_700 : decode cL_law 700 = .ok (.if_icmp .eq 94, 3) := by decide +kernel
theorem dL_law_703 : decode cL_law 703 = .ok (.iconst 0, 1) := by decide +kernel
theorem dL_law_704 : decode cL_law 704 = .ok (.ireturn, 1) := by decide +kernel
theorem dL_law_705 : decode cL_law 705 = .ok (.aload_n 1, 1) := by decide +kernel
theorem dL_law_706 : decode cL_law 706 = .ok (.aload_n 0, 1) := by decide +kernel
theorem dL_law_707 : decode cL_law 707 = .ok (.iload 4, 2) := by decide +kernel
theorem dL_law_709 : decode cL_law 709 = .ok (.iconst 1, 1) := by decide +kernel
theorem dL_law_710 : decode cL_law 710 = .ok (.iadd, 1) := by decide +kernel
theorem dL_law_711 : decode cL_law 711 = .ok (.iaload, 1) := by decide +kernel
theorem dL_law_712 : decode cL_law 712 = .ok (.invokevirtual 99, 3) := by decide +kernel
theorem dL_law_715 : decode cL_law 715 = .ok (.aload_n 2, 1) := by decide +kernel
theorem dL_law_716 : decode cL_law 716 = .ok (.aload_n 0, 1) := by decide +kernel
theorem dL_law_717 : decode cL_law 717 = .ok (.iload 4, 2) := by decide +kernel
theorem dL_law_719 : decode cL_law 719 = .ok (.iconst 1, 1) := by decide +kernel
theorem dL_law_720 : decode cL_law 720 = .ok (.iadd, 1) := by decide +kernel
theorem dL_law_721 : decode cL_law 721 = .ok (.iaload, 1) := by decide +kernel
theorem dL_law_722 : decode cL_law 722 = .ok (.invokevirtual 102, 3) := by decide +kernel
theorem dL_law_725 : decode cL_law 725 = .ok (.if_icmp .eq 69, 3) := by decide +kernel
theorem dL_law_728 : decode cL_law 728 = .ok (.iconst 0, 1) := by decide +kernel
theorem dL_law_729 : decode cL_law 729 = .ok (.ireturn, 1) := by decide +kernel
theorem dL_law_730 : decode cL_law 730 = .ok (.aload_n 1, 1) := by decide +kernel
theorem dL_law_731 : decode cL_law 731 = .ok (.aload_n 0, 1) := by decide +kernel
theorem dL_law_732 : decode cL_law 732 = .ok (.iload 4, 2) := by decide +kernel
theorem dL_law_734 : decode cL_law 734 = .ok (.iconst 1, 1) := by decide +kernel
theorem dL_law_735 : decode cL_law 735 = .ok (.iadd, 1) := by decide +kernel
theorem dL_law_736 : decode cL_law 736 = .ok (.iaload, 1) := by decide +kernel
theorem dL_law_737 : decode cL_law 737 = .ok (.invokevirtual 103, 3) := by decide +kernel
theorem dL_law_740 : decode cL_law 740 = .ok (.aload_n 2, 1) := by decide +kernel
theorem dL_law_741 : decode cL_law 741 = .ok (.aload_n 0, 1) := by decide +kernel
theorem dL_law_742 : decode cL_law 742 = .ok (.iload 4, 2) := by decide +kernel
theorem dL_law_744 : decode cL_law 744 = .ok (.iconst 1, 1) := by decide +kernel
theorem dL_law_745 : decode cL_law 745 = .ok (.iadd, 1) := by decide +kernel
theorem dL_law_746 : decode cL_law 746 = .ok (.iaload, 1) := by decide +kernel
theorem dL_law_747 : decode cL_law 747 = .ok (.invokevirtual 107, 3) := by decide +kernel
theorem dL_law_750 : decode cL_law 750 = .ok (.lcmp, 1) := by decide +kernel
theorem dL_law_751 : decode cL_law 751 = .ok (.ifCond .eq 43, 3) := by decide +kernel
theorem dL_law_754 : decode cL_law 754 = .ok (.iconst 0, 1) := by decide +kernel
theorem dL_law_755 : decode cL_law 755 = .ok (.ireturn, 1) := by decide +kernel
theorem dL_law_756 : decode cL_law 756 = .ok (.aload_n 1, 1) := by decide +kernel
theorem dL_law_757 : decode cL_law 757 = .ok (.invokevirtual 108, 3) := by decide +kernel
theorem dL_law_760 : decode cL_law 760 = .ok (.aload_n 2, 1) := by decide +kernel
theorem dL_law_761 : decode cL_law 761 = .ok (.invokevirtual 111, 3) := by decide +kernel
theorem dL_law_764 : decode cL_law 764 = .ok (.if_icmp .eq 30, 3) := by decide +kernel
theorem dL_law_767 : decode cL_law 767 = .ok (.iconst 0, 1) := by decide +kernel
theorem dL_law_768 : decode cL_law 768 = .ok (.ireturn, 1) := by decide +kernel
theorem dL_law_769 : decode cL_law 769 = .ok (.aload_n 1, 1) := by decide +kernel
theorem dL_law_770 : decode cL_law 770 = .ok (.aload_n 0, 1) := by decide +kernel
theorem dL_law_771 : decode cL_law 771 = .ok (.iload 4, 2) := by decide +kernel
theorem dL_law_773 : decode cL_law 773 = .ok (.iconst 1, 1) := by decide +kernel
theorem dL_law_774 : decode cL_law 774 = .ok (.iadd, 1) := by decide +kernel
theorem dL_law_775 : decode cL_law 775 = .ok (.iaload, 1) := by decide +kernel
theorem dL_law_776 : decode cL_law 776 = .ok (.invokevirtual 112, 3) := by decide +kernel
theorem dL_law_779 : decode cL_law 779 = .ok (.aload_n 2, 1) := by decide +kernel
theorem dL_law_780 : decode cL_law 780 = .ok (.aload_n 0, 1) := by decide +kernel
theorem dL_law_781 : decode cL_law 781 = .ok (.iload 4, 2) := by decide +kernel
theorem dL_law_783 : decode cL_law 783 = .ok (.iconst 1, 1) := by decide +kernel
theorem dL_law_784 : decode cL_law 784 = .ok (.iadd, 1) := by decide +kernel
theorem dL_law_785 : decode cL_law 785 = .ok (.iaload, 1) := by decide +kernel
theorem dL_law_786 : decode cL_law 786 = .ok (.invokevirtual 115, 3) := by decide +kernel
theorem dL_law_789 : decode cL_law 789 = .ok (.if_icmp .eq 5, 3) := by decide +kernel
theorem dL_law_792 : decode cL_law 792 = .ok (.iconst 0, 1) := by decide +kernel
theorem dL_law_793 : decode cL_law 793 = .ok (.ireturn, 1) := by decide +kernel
theorem dL_law_794 : decode cL_law 794 = .ok (.iinc 4 4, 3) := by decide +kernel
theorem dL_law_797 : decode cL_law 797 = .ok (.goto (-774), 3) := by decide +kernel
theorem dL_law_800 : decode cL_law 800 = .ok (.iconst 1, 1) := by decide +kernel
theorem dL_law_801 : decode cL_law 801 = .ok (.ireturn, 1) := by decide +kernel
end
section
/-! CALLS BY THEIR NUMBER OF ARGUMENTS, of callees that answer r and leave h2 -/
def Det (r : Option Value) (h2 : HP) : Option Value → HP → Prop := fun r' h' => r' = r ∧ h' = h2
def b2i (p : Prop) [Decidable p] : Int32 := if p then 1 else 0
section EW
variable {y yc : MI} {d k n pc idx ci i dc kc nc : Nat} {lv : List (Nat × Value)} {st fs : List Value} {h h2 : HP} {q : vw_C} {r : Option Value} {Q : Option Value → HP → Prop}
theorem EM.weak {vs : List Value} {Q' : Option Value → HP → Prop} (hE : EM y d k n vs h Q) (hQ : ∀ r h', Q r h' → Q' r h') : EM y d k n vs h Q' := E.weak hE hQ
theorem EM.mono {vs : List Value} {d' k' n' : Nat} (hE : EM y d k n vs h Q) (h1 : d ≤ d') (h2 : k ≤ k') (h3 : n ≤ n') : EM y d' k' n' vs h Q := E.mono hE h1 h2 h3
theorem E_V0  (hd : decode y.2.1 pc = .ok (.invokevirtual idx, 3)) (ok : okV y.1.cls idx yc 0) (hi : 3 ≤ i) (hh : h[i]? = some (.inr (ci, fs))) (hc : CL[ci]? = some q) (hq : q.1 = yc.1.cls) (hl : (lg_sl [.ref i]).length ≤ yc.2.2.1) (hw : (st.map fun v => v.category).sum ≤ 8) (C : EM yc dc kc nc [.ref i] h (Det r h2)) (hdc : dc + 1 ≤ d) (hk : kc ≤ k) (hn : nc ≤ n) (K : E y d (k - kc) (n - nc) (pc + 3) lv (r.toList ++ st) h2 Q) : E y d k n pc lv (.ref i :: st) h Q :=
  E_callV [] st hd ok rfl rfl hi hh hc hq hl hw C hdc hk hn (fun r' h' e => by obtain ⟨rfl, rfl⟩ := e; exact K)
theorem E_I0  (hd : decode y.2.1 pc = .ok (.invokespecial idx, 3)) (ok : okI y.1.cls idx yc 0) (hl : (lg_sl [.ref i]).length ≤ yc.2.2.1) (hw : (st.map fun v => v.category).sum ≤ 8) (C : EM yc dc kc nc [.ref i] h (Det r h2)) (hdc : dc + 1 ≤ d) (hk : kc ≤ k) (hn : nc ≤ n) (K : E y d (k - kc) (n - nc) (pc + 3) lv (r.toList ++ st) h2 Q) : E y d k n pc lv (.ref i :: st) h Q :=
  E_callI [] st hd ok rfl rfl hl hw C hdc hk hn (fun r' h' e => by obtain ⟨rfl, rfl⟩ := e; exact K)
theorem E_V1 {a1 : Value} (hd : decode y.2.1 pc = .ok (.invokevirtual idx, 3)) (ok : okV y.1.cls idx yc 1) (hi : 3 ≤ i) (hh : h[i]? = some (.inr (ci, fs))) (hc : CL[ci]? = some q) (hq : q.1 = yc.1.cls) (hl : (lg_sl [.ref i, a1]).length ≤ yc.2.2.1) (hw : (st.map fun v => v.category).sum ≤ 8) (C : EM yc dc kc nc [.ref i, a1] h (Det r h2)) (hdc : dc + 1 ≤ d) (hk : kc ≤ k) (hn : nc ≤ n) (K : E y d (k - kc) (n - nc) (pc + 3) lv (r.toList ++ st) h2 Q) : E y d k n pc lv (a1 :: .ref i :: st) h Q :=
  E_callV [a1] st hd ok rfl rfl hi hh hc hq hl hw C hdc hk hn (fun r' h' e => by obtain ⟨rfl, rfl⟩ := e; exact K)
theorem E_I1 {a1 : Value} (hd : decode y.2.1 pc = .ok (.invokespecial idx, 3)) (ok : okI y.1.cls idx yc 1) (hl : (lg_sl [.ref i, a1]).length ≤ yc.2.2.1) (hw : (st.map fun v => v.category).sum ≤ 8) (C : EM yc dc kc nc [.ref i, a1] h (Det r h2)) (hdc : dc + 1 ≤ d) (hk : kc ≤ k) (hn : nc ≤ n) (K : E y d (k - kc) (n - nc) (pc + 3) lv (r.toList ++ st) h2 Q) : E y d k n pc lv (a1 :: .ref i :: st) h Q :=
  E_callI [a1] st hd ok rfl rfl hl hw C hdc hk hn (fun r' h' e => by obtain ⟨rfl, rfl⟩ := e; exact K)
theorem E_S1 {a1 : Value} (hd : decode y.2.1 pc = .ok (.invokestatic idx, 3)) (ok : okS y.1.cls idx yc 1) (hl : (lg_sl [a1]).length ≤ yc.2.2.1) (hw : (st.map fun v => v.category).sum ≤ 8) (C : EM yc dc kc nc [a1] h (Det r h2)) (hdc : dc + 1 ≤ d) (hk : kc ≤ k) (hn : nc ≤ n) (K : E y d (k - kc) (n - nc) (pc + 3) lv (r.toList ++ st) h2 Q) : E y d k n pc lv (a1 :: st) h Q :=
  E_callS [a1] st hd ok rfl rfl hl hw C hdc hk hn (fun r' h' e => by obtain ⟨rfl, rfl⟩ := e; exact K)
theorem E_V2 {a1 a2 : Value} (hd : decode y.2.1 pc = .ok (.invokevirtual idx, 3)) (ok : okV y.1.cls idx yc 2) (hi : 3 ≤ i) (hh : h[i]? = some (.inr (ci, fs))) (hc : CL[ci]? = some q) (hq : q.1 = yc.1.cls) (hl : (lg_sl [.ref i, a1, a2]).length ≤ yc.2.2.1) (hw : (st.map fun v => v.category).sum ≤ 8) (C : EM yc dc kc nc [.ref i, a1, a2] h (Det r h2)) (hdc : dc + 1 ≤ d) (hk : kc ≤ k) (hn : nc ≤ n) (K : E y d (k - kc) (n - nc) (pc + 3) lv (r.toList ++ st) h2 Q) : E y d k n pc lv (a2 :: a1 :: .ref i :: st) h Q :=
  E_callV [a1, a2] st hd ok rfl rfl hi hh hc hq hl hw C hdc hk hn (fun r' h' e => by obtain ⟨rfl, rfl⟩ := e; exact K)
theorem E_I2 {a1 a2 : Value} (hd : decode y.2.1 pc = .ok (.invokespecial idx, 3)) (ok : okI y.1.cls idx yc 2) (hl : (lg_sl [.ref i, a1, a2]).length ≤ yc.2.2.1) (hw : (st.map fun v => v.category).sum ≤ 8) (C : EM yc dc kc nc [.ref i, a1, a2] h (Det r h2)) (hdc : dc + 1 ≤ d) (hk : kc ≤ k) (hn : nc ≤ n) (K : E y d (k - kc) (n - nc) (pc + 3) lv (r.toList ++ st) h2 Q) : E y d k n pc lv (a2 :: a1 :: .ref i :: st) h Q :=
  E_callI [a1, a2] st hd ok rfl rfl hl hw C hdc hk hn (fun r' h' e => by obtain ⟨rfl, rfl⟩ := e; exact K)
theorem E_S2 {a1 a2 : Value} (hd : decode y.2.1 pc = .ok (.invokestatic idx, 3)) (ok : okS y.1.cls idx yc 2) (hl : (lg_sl [a1, a2]).length ≤ yc.2.2.1) (hw : (st.map fun v => v.category).sum ≤ 8) (C : EM yc dc kc nc [a1, a2] h (Det r h2)) (hdc : dc + 1 ≤ d) (hk : kc ≤ k) (hn : nc ≤ n) (K : E y d (k - kc) (n - nc) (pc + 3) lv (r.toList ++ st) h2 Q) : E y d k n pc lv (a2 :: a1 :: st) h Q :=
  E_callS [a1, a2] st hd ok rfl rfl hl hw C hdc hk hn (fun r' h' e => by obtain ⟨rfl, rfl⟩ := e; exact K)
theorem E_V3 {a1 a2 a3 : Value} (hd : decode y.2.1 pc = .ok (.invokevirtual idx, 3)) (ok : okV y.1.cls idx yc 3) (hi : 3 ≤ i) (hh : h[i]? = some (.inr (ci, fs))) (hc : CL[ci]? = some q) (hq : q.1 = yc.1.cls) (hl : (lg_sl [.ref i, a1, a2, a3]).length ≤ yc.2.2.1) (hw : (st.map fun v => v.category).sum ≤ 8) (C : EM yc dc kc nc [.ref i, a1, a2, a3] h (Det r h2)) (hdc : dc + 1 ≤ d) (hk : kc ≤ k) (hn : nc ≤ n) (K : E y d (k - kc) (n - nc) (pc + 3) lv (r.toList ++ st) h2 Q) : E y d k n pc lv (a3 :: a2 :: a1 :: .ref i :: st) h Q :=
  E_callV [a1, a2, a3] st hd ok rfl rfl hi hh hc hq hl hw C hdc hk hn (fun r' h' e => by obtain ⟨rfl, rfl⟩ := e; exact K)
theorem E_I3 {a1 a2 a3 : Value} (hd : decode y.2.1 pc = .ok (.invokespecial idx, 3)) (ok : okI y.1.cls idx yc 3) (hl : (lg_sl [.ref i, a1, a2, a3]).length ≤ yc.2.2.1) (hw : (st.map fun v => v.category).sum ≤ 8) (C : EM yc dc kc nc [.ref i, a1, a2, a3] h (Det r h2)) (hdc : dc + 1 ≤ d) (hk : kc ≤ k) (hn : nc ≤ n) (K : E y d (k - kc) (n - nc) (pc + 3) lv (r.toList ++ st) h2 Q) : E y d k n pc lv (a3 :: a2 :: a1 :: .ref i :: st) h Q :=
  E_callI [a1, a2, a3] st hd ok rfl rfl hl hw C hdc hk hn (fun r' h' e => by obtain ⟨rfl, rfl⟩ := e; exact K)
theorem E_S3 {a1 a2 a3 : Value} (hd : decode y.2.1 pc = .ok (.invokestatic idx, 3)) (ok : okS y.1.cls idx yc 3) (hl : (lg_sl [a1, a2, a3]).length ≤ yc.2.2.1) (hw : (st.map fun v => v.category).sum ≤ 8) (C : EM yc dc kc nc [a1, a2, a3] h (Det r h2)) (hdc : dc + 1 ≤ d) (hk : kc ≤ k) (hn : nc ≤ n) (K : E y d (k - kc) (n - nc) (pc + 3) lv (r.toList ++ st) h2 Q) : E y d k n pc lv (a3 :: a2 :: a1 :: st) h Q :=
  E_callS [a1, a2, a3] st hd ok rfl rfl hl hw C hdc hk hn (fun r' h' e => by obtain ⟨rfl, rfl⟩ := e; exact K)
theorem E_V4 {a1 a2 a3 a4 : Value} (hd : decode y.2.1 pc = .ok (.invokevirtual idx, 3)) (ok : okV y.1.cls idx yc 4) (hi : 3 ≤ i) (hh : h[i]? = some (.inr (ci, fs))) (hc : CL[ci]? = some q) (hq : q.1 = yc.1.cls) (hl : (lg_sl [.ref i, a1, a2, a3, a4]).length ≤ yc.2.2.1) (hw : (st.map fun v => v.category).sum ≤ 8) (C : EM yc dc kc nc [.ref i, a1, a2, a3, a4] h (Det r h2)) (hdc : dc + 1 ≤ d) (hk : kc ≤ k) (hn : nc ≤ n) (K : E y d (k - kc) (n - nc) (pc + 3) lv (r.toList ++ st) h2 Q) : E y d k n pc lv (a4 :: a3 :: a2 :: a1 :: .ref i :: st) h Q :=
  E_callV [a1, a2, a3, a4] st hd ok rfl rfl hi hh hc hq hl hw C hdc hk hn (fun r' h' e => by obtain ⟨rfl, rfl⟩ := e; exact K)
theorem E_I4 {a1 a2 a3 a4 : Value} (hd : decode y.2.1 pc = .ok (.invokespecial idx, 3)) (ok : okI y.1.cls idx yc 4) (hl : (lg_sl [.ref i, a1, a2, a3, a4]).length ≤ yc.2.2.1) (hw : (st.map fun v => v.category).sum ≤ 8) (C : EM yc dc kc nc [.ref i, a1, a2, a3, a4] h (Det r h2)) (hdc : dc + 1 ≤ d) (hk : kc ≤ k) (hn : nc ≤ n) (K : E y d (k - kc) (n - nc) (pc + 3) lv (r.toList ++ st) h2 Q) : E y d k n pc lv (a4 :: a3 :: a2 :: a1 :: .ref i :: st) h Q :=
  E_callI [a1, a2, a3, a4] st hd ok rfl rfl hl hw C hdc hk hn (fun r' h' e => by obtain ⟨rfl, rfl⟩ := e; exact K)
theorem E_S4 {a1 a2 a3 a4 : Value} (hd : decode y.2.1 pc = .ok (.invokestatic idx, 3)) (ok : okS y.1.cls idx yc 4) (hl : (lg_sl [a1, a2, a3, a4]).length ≤ yc.2.2.1) (hw : (st.map fun v => v.category).sum ≤ 8) (C : EM yc dc kc nc [a1, a2, a3, a4] h (Det r h2)) (hdc : dc + 1 ≤ d) (hk : kc ≤ k) (hn : nc ≤ n) (K : E y d (k - kc) (n - nc) (pc + 3) lv (r.toList ++ st) h2 Q) : E y d k n pc lv (a4 :: a3 :: a2 :: a1 :: st) h Q :=
  E_callS [a1, a2, a3, a4] st hd ok rfl rfl hl hw C hdc hk hn (fun r' h' e => by obtain ⟨rfl, rfl⟩ := e; exact K)
theorem E_V5 {a1 a2 a3 a4 a5 : Value} (hd : decode y.2.1 pc = .ok (.invokevirtual idx, 3)) (ok : okV y.1.cls idx yc 5) (hi : 3 ≤ i) (hh : h[i]? = some (.inr (ci, fs))) (hc : CL[ci]? = some q) (hq : q.1 = yc.1.cls) (hl : (lg_sl [.ref i, a1, a2, a3, a4, a5]).length ≤ yc.2.2.1) (hw : (st.map fun v => v.category).sum ≤ 8) (C : EM yc dc kc nc [.ref i, a1, a2, a3, a4, a5] h (Det r h2)) (hdc : dc + 1 ≤ d) (hk : kc ≤ k) (hn : nc ≤ n) (K : E y d (k - kc) (n - nc) (pc + 3) lv (r.toList ++ st) h2 Q) : E y d k n pc lv (a5 :: a4 :: a3 :: a2 :: a1 :: .ref i :: st) h Q :=
  E_callV [a1, a2, a3, a4, a5] st hd ok rfl rfl hi hh hc hq hl hw C hdc hk hn (fun r' h' e => by obtain ⟨rfl, rfl⟩ := e; exact K)
theorem E_I5 {a1 a2 a3 a4 a5 : Value} (hd : decode y.2.1 pc = .ok (.invokespecial idx, 3)) (ok : okI y.1.cls idx yc 5) (hl : (lg_sl [.ref i, a1, a2, a3, a4, a5]).length ≤ yc.2.2.1) (hw : (st.map fun v => v.category).sum ≤ 8) (C : EM yc dc kc nc [.ref i, a1, a2, a3, a4, a5] h (Det r h2)) (hdc : dc + 1 ≤ d) (hk : kc ≤ k) (hn : nc ≤ n) (K : E y d (k - kc) (n - nc) (pc + 3) lv (r.toList ++ st) h2 Q) : E y d k n pc lv (a5 :: a4 :: a3 :: a2 :: a1 :: .ref i :: st) h Q :=
  E_callI [a1, a2, a3, a4, a5] st hd ok rfl rfl hl hw C hdc hk hn (fun r' h' e => by obtain ⟨rfl, rfl⟩ := e; exact K)
theorem E_S5 {a1 a2 a3 a4 a5 : Value} (hd : decode y.2.1 pc = .ok (.invokestatic idx, 3)) (ok : okS y.1.cls idx yc 5) (hl : (lg_sl [a1, a2, a3, a4, a5]).length ≤ yc.2.2.1) (hw : (st.map fun v => v.category).sum ≤ 8) (C : EM yc dc kc nc [a1, a2, a3, a4, a5] h (Det r h2)) (hdc : dc + 1 ≤ d) (hk : kc ≤ k) (hn : nc ≤ n) (K : E y d (k - kc) (n - nc) (pc + 3) lv (r.toList ++ st) h2 Q) : E y d k n pc lv (a5 :: a4 :: a3 :: a2 :: a1 :: st) h Q :=
  E_callS [a1, a2, a3, a4, a5] st hd ok rfl rfl hl hw C hdc hk hn (fun r' h' e => by obtain ⟨rfl, rfl⟩ := e; exact K)
theorem E_iincL {y : MI} {d k n pc i : Nat} {z : Int} {x : Int32} (c : Int32) {lv lv' : List (Nat × Value)} {st : List Value} {h : HP} {Q : Option Value → HP → Prop} (hd : decode y.2.1 pc = .ok (.iinc i z, 3)) (hc : Int32.ofInt z = c) (hg : lv.lookup i = some (.int x)) (hn : i < y.2.2.1) (hl : (i, Value.int (x + c)) :: lv.filter (fun q => !(q.1 == i) && !(q.1 + 1 == i && q.2.category == 2)) = lv') (K : E y d k n (pc + 3) lv' st h Q) : E y d k n pc lv st h Q := E_iinc hd hg (by rw [hc]) hn hl K
end EW
end
section
/-! LEAVES without loops -/
theorem b2i_t {p : Prop} [Decidable p] (h : p) : b2i p = 1 := if_pos h
theorem b2i_f {p : Prop} [Decidable p] (h : ¬ p) : b2i p = 0 := if_neg h
theorem b2i_ne {p : Prop} [Decidable p] (h : ¬ b2i p = 0) : p := by
  by_cases hp : p
  · exact hp
  · exact absurd (b2i_f hp) h
theorem b2i_e0 {p : Prop} [Decidable p] (h : b2i p = 0) : ¬ p := fun hp => by rw [b2i_t hp] at h; exact absurd h (by decide)
theorem b2i_01 {p : Prop} [Decidable p] : b2i p = 0 ∨ b2i p = 1 := by
  by_cases hp : p
  · exact Or.inr (b2i_t hp)
  · exact Or.inl (b2i_f hp)
theorem b2i_nar {p : Prop} [Decidable p] : narrow .boolean (.int (b2i p)) = .int (b2i p) := by
  rcases b2i_01 (p := p) with h | h <;> rw [h] <;> rfl
theorem si_t {p : Prop} [Decidable p] (h : p) : some (Value.int 1) = some (Value.int (b2i p)) := by rw [b2i_t h]
theorem si_f {p : Prop} [Decidable p] (h : ¬ p) : some (Value.int 0) = some (Value.int (b2i p)) := by rw [b2i_f h]
theorem i32_lt {a b : Int32} : a < b ↔ a.toInt < b.toInt := Int32.lt_iff_toInt_lt
theorem i32_le {a b : Int32} : a ≤ b ↔ a.toInt ≤ b.toInt := Int32.le_iff_toInt_le
theorem i32_eq {a b : Int32} : a = b ↔ a.toInt = b.toInt := Int32.toInt_inj.symm
theorem sv_if {p : Prop} [Decidable p] {a b : Int32} (h : p) : some (Value.int a) = some (Value.int (if p then a else b)) := by rw [if_pos h]
theorem sv_el {p : Prop} [Decidable p] {a b : Int32} (h : ¬ p) : some (Value.int b) = some (Value.int (if p then a else b)) := by rw [if_neg h]
/-- a letter a .. z -/
abbrev isL (x : Int32) : Prop := 97 ≤ x.toInt ∧ x.toInt ≤ 122
/-- within bounds -/
abbrev inB (x a b : Int32) : Prop := a.toInt ≤ x.toInt ∧ x.toInt ≤ b.toInt
/-- a place below n -/
abbrev ltN (x n : Int32) : Prop := 0 ≤ x.toInt ∧ x.toInt < n.toInt
theorem c_isLetter (z : HP) (x : Int32) : EM mDesk_isLetter 0 0 0 [.int x] z (Det (some (.int (b2i (isL x)))) z) := by
  refine E_iload_n dX10_isLetter_0 rfl ?_
  refine E_bipush (v := 97) dX10_isLetter_1 rfl ?_
  refine E_icmp_lt 16 dX10_isLetter_3 (by decide) (fun c_3 => ?_) (fun c_3 => ?_)
  · refine E_iconst (v := 0) dX10_isLetter_16 rfl ?_
    exact E_iret dX10_isLetter_17 rfl rfl ⟨by first | exact si_t (by simp only [i32_lt, i32_le, i32_eq, Int32.reduceToInt] at *; exact ⟨by omega, by omega⟩) | exact si_t (by simp only [i32_lt, i32_le, i32_eq, Int32.reduceToInt] at *; omega) | exact si_f (by simp only [i32_lt, i32_le, i32_eq, Int32.reduceToInt] at *; omega), rfl⟩
  · refine E_iload_n dX10_isLetter_6 rfl ?_
    refine E_bipush (v := 123) dX10_isLetter_7 rfl ?_
    refine E_icmp_ge 16 dX10_isLetter_9 (by decide) (fun c_9 => ?_) (fun c_9 => ?_)
    · refine E_iconst (v := 0) dX10_isLetter_16 rfl ?_
      exact E_iret dX10_isLetter_17 rfl rfl ⟨by first | exact si_t (by simp only [i32_lt, i32_le, i32_eq, Int32.reduceToInt] at *; exact ⟨by omega, by omega⟩) | exact si_t (by simp only [i32_lt, i32_le, i32_eq, Int32.reduceToInt] at *; omega) | exact si_f (by simp only [i32_lt, i32_le, i32_eq, Int32.reduceToInt] at *; omega), rfl⟩
    · refine E_iconst (v := 1) dX10_isLetter_12 rfl ?_
      refine E_goto 17 dX10_isLetter_13 (by decide) ?_
      exact E_iret dX10_isLetter_17 rfl rfl ⟨by first | exact si_t (by simp only [i32_lt, i32_le, i32_eq, Int32.reduceToInt] at *; exact ⟨by omega, by omega⟩) | exact si_t (by simp only [i32_lt, i32_le, i32_eq, Int32.reduceToInt] at *; omega) | exact si_f (by simp only [i32_lt, i32_le, i32_eq, Int32.reduceToInt] at *; omega), rfl⟩
theorem c_within (z : HP) (x a b : Int32) : EM mDesk_within 0 0 0 [.int x, .int a, .int b] z (Det (some (.int (b2i (inB x a b)))) z) := by
  refine E_iload_n dX10_within_0 rfl ?_
  refine E_iload_n dX10_within_1 rfl ?_
  refine E_icmp_lt 14 dX10_within_2 (by decide) (fun c_2 => ?_) (fun c_2 => ?_)
  · refine E_iconst (v := 0) dX10_within_14 rfl ?_
    exact E_iret dX10_within_15 rfl rfl ⟨by first | exact si_t (by simp only [i32_lt, i32_le, i32_eq, Int32.reduceToInt] at *; exact ⟨by omega, by omega⟩) | exact si_t (by simp only [i32_lt, i32_le, i32_eq, Int32.reduceToInt] at *; omega) | exact si_f (by simp only [i32_lt, i32_le, i32_eq, Int32.reduceToInt] at *; omega), rfl⟩
  · refine E_iload_n dX10_within_5 rfl ?_
    refine E_iload_n dX10_within_6 rfl ?_
    refine E_icmp_gt 14 dX10_within_7 (by decide) (fun c_7 => ?_) (fun c_7 => ?_)
    · refine E_iconst (v := 0) dX10_within_14 rfl ?_
      exact E_iret dX10_within_15 rfl rfl ⟨by first | exact si_t (by simp only [i32_lt, i32_le, i32_eq, Int32.reduceToInt] at *; exact ⟨by omega, by omega⟩) | exact si_t (by simp only [i32_lt, i32_le, i32_eq, Int32.reduceToInt] at *; omega) | exact si_f (by simp only [i32_lt, i32_le, i32_eq, Int32.reduceToInt] at *; omega), rfl⟩
    · refine E_iconst (v := 1) dX10_within_10 rfl ?_
      refine E_goto 15 dX10_within_11 (by decide) ?_
      exact E_iret dX10_within_15 rfl rfl ⟨by first | exact si_t (by simp only [i32_lt, i32_le, i32_eq, Int32.reduceToInt] at *; exact ⟨by omega, by omega⟩) | exact si_t (by simp only [i32_lt, i32_le, i32_eq, Int32.reduceToInt] at *; omega) | exact si_f (by simp only [i32_lt, i32_le, i32_eq, Int32.reduceToInt] at *; omega), rfl⟩
theorem c_isSmall (z : HP) (x : Int32) : EM mMod_isSmall 0 0 0 [.int x] z (Det (some (.int (b2i (isL x)))) z) := by
  refine E_iload_n dX11_isSmall_0 rfl ?_
  refine E_bipush (v := 97) dX11_isSmall_1 rfl ?_
  refine E_icmp_lt 16 dX11_isSmall_3 (by decide) (fun c_3 => ?_) (fun c_3 => ?_)
  · refine E_iconst (v := 0) dX11_isSmall_16 rfl ?_
    exact E_iret dX11_isSmall_17 rfl rfl ⟨by first | exact si_t (by simp only [i32_lt, i32_le, i32_eq, Int32.reduceToInt] at *; exact ⟨by omega, by omega⟩) | exact si_t (by simp only [i32_lt, i32_le, i32_eq, Int32.reduceToInt] at *; omega) | exact si_f (by simp only [i32_lt, i32_le, i32_eq, Int32.reduceToInt] at *; omega), rfl⟩
  · refine E_iload_n dX11_isSmall_6 rfl ?_
    refine E_bipush (v := 122) dX11_isSmall_7 rfl ?_
    refine E_icmp_gt 16 dX11_isSmall_9 (by decide) (fun c_9 => ?_) (fun c_9 => ?_)
    · refine E_iconst (v := 0) dX11_isSmall_16 rfl ?_
      exact E_iret dX11_isSmall_17 rfl rfl ⟨by first | exact si_t (by simp only [i32_lt, i32_le, i32_eq, Int32.reduceToInt] at *; exact ⟨by omega, by omega⟩) | exact si_t (by simp only [i32_lt, i32_le, i32_eq, Int32.reduceToInt] at *; omega) | exact si_f (by simp only [i32_lt, i32_le, i32_eq, Int32.reduceToInt] at *; omega), rfl⟩
    · refine E_iconst (v := 1) dX11_isSmall_12 rfl ?_
      refine E_goto 17 dX11_isSmall_13 (by decide) ?_
      exact E_iret dX11_isSmall_17 rfl rfl ⟨by first | exact si_t (by simp only [i32_lt, i32_le, i32_eq, Int32.reduceToInt] at *; exact ⟨by omega, by omega⟩) | exact si_t (by simp only [i32_lt, i32_le, i32_eq, Int32.reduceToInt] at *; omega) | exact si_f (by simp only [i32_lt, i32_le, i32_eq, Int32.reduceToInt] at *; omega), rfl⟩
theorem c_isIn (z : HP) (x a b : Int32) : EM mMod_isIn 0 0 0 [.int x, .int a, .int b] z (Det (some (.int (b2i (inB x a b)))) z) := by
  refine E_iload_n dX11_isIn_0 rfl ?_
  refine E_iload_n dX11_isIn_1 rfl ?_
  refine E_icmp_lt 14 dX11_isIn_2 (by decide) (fun c_2 => ?_) (fun c_2 => ?_)
  · refine E_iconst (v := 0) dX11_isIn_14 rfl ?_
    exact E_iret dX11_isIn_15 rfl rfl ⟨by first | exact si_t (by simp only [i32_lt, i32_le, i32_eq, Int32.reduceToInt] at *; exact ⟨by omega, by omega⟩) | exact si_t (by simp only [i32_lt, i32_le, i32_eq, Int32.reduceToInt] at *; omega) | exact si_f (by simp only [i32_lt, i32_le, i32_eq, Int32.reduceToInt] at *; omega), rfl⟩
  · refine E_iload_n dX11_isIn_5 rfl ?_
    refine E_iload_n dX11_isIn_6 rfl ?_
    refine E_icmp_gt 14 dX11_isIn_7 (by decide) (fun c_7 => ?_) (fun c_7 => ?_)
    · refine E_iconst (v := 0) dX11_isIn_14 rfl ?_
      exact E_iret dX11_isIn_15 rfl rfl ⟨by first | exact si_t (by simp only [i32_lt, i32_le, i32_eq, Int32.reduceToInt] at *; exact ⟨by omega, by omega⟩) | exact si_t (by simp only [i32_lt, i32_le, i32_eq, Int32.reduceToInt] at *; omega) | exact si_f (by simp only [i32_lt, i32_le, i32_eq, Int32.reduceToInt] at *; omega), rfl⟩
    · refine E_iconst (v := 1) dX11_isIn_10 rfl ?_
      refine E_goto 15 dX11_isIn_11 (by decide) ?_
      exact E_iret dX11_isIn_15 rfl rfl ⟨by first | exact si_t (by simp only [i32_lt, i32_le, i32_eq, Int32.reduceToInt] at *; exact ⟨by omega, by omega⟩) | exact si_t (by simp only [i32_lt, i32_le, i32_eq, Int32.reduceToInt] at *; omega) | exact si_f (by simp only [i32_lt, i32_le, i32_eq, Int32.reduceToInt] at *; omega), rfl⟩
theorem c_isNode (z : Sg) (x : Int32) : EM mMod_isNode 0 0 0 [.ref 39, .int x] (hp z) (Det (some (.int (b2i (ltN x (z.F 39 5))))) (hp z)) := by
  refine E_iload_n dX11_isNode_0 rfl ?_
  refine E_if_lt 16 dX11_isNode_1 (by decide) (fun c_1 => ?_) (fun c_1 => ?_)
  · refine E_iconst (v := 0) dX11_isNode_16 rfl ?_
    exact E_iret dX11_isNode_17 rfl rfl ⟨by first | exact si_t (by simp only [i32_lt, i32_le, i32_eq, Int32.reduceToInt] at *; exact ⟨by omega, by omega⟩) | exact si_t (by simp only [i32_lt, i32_le, i32_eq, Int32.reduceToInt] at *; omega) | exact si_f (by simp only [i32_lt, i32_le, i32_eq, Int32.reduceToInt] at *; omega), rfl⟩
  · refine E_iload_n dX11_isNode_4 rfl ?_
    refine E_aload_n dX11_isNode_5 rfl ?_
    refine E_getf 5 dX11_isNode_6 fl_X11_22 (by decide) (hg_39 _) rfl ?_
    refine E_icmp_ge 16 dX11_isNode_9 (by decide) (fun c_9 => ?_) (fun c_9 => ?_)
    · refine E_iconst (v := 0) dX11_isNode_16 rfl ?_
      exact E_iret dX11_isNode_17 rfl rfl ⟨by first | exact si_t (by simp only [i32_lt, i32_le, i32_eq, Int32.reduceToInt] at *; exact ⟨by omega, by omega⟩) | exact si_t (by simp only [i32_lt, i32_le, i32_eq, Int32.reduceToInt] at *; omega) | exact si_f (by simp only [i32_lt, i32_le, i32_eq, Int32.reduceToInt] at *; omega), rfl⟩
    · refine E_iconst (v := 1) dX11_isNode_12 rfl ?_
      refine E_goto 17 dX11_isNode_13 (by decide) ?_
      exact E_iret dX11_isNode_17 rfl rfl ⟨by first | exact si_t (by simp only [i32_lt, i32_le, i32_eq, Int32.reduceToInt] at *; exact ⟨by omega, by omega⟩) | exact si_t (by simp only [i32_lt, i32_le, i32_eq, Int32.reduceToInt] at *; omega) | exact si_f (by simp only [i32_lt, i32_le, i32_eq, Int32.reduceToInt] at *; omega), rfl⟩
theorem c_has (z : Sg) (x : Int32) : EM mTray_has 0 0 0 [.ref 6, .int x] (hp z) (Det (some (.int (b2i (ltN x (z.F 6 10))))) (hp z)) := by
  refine E_iload_n dX9_has_0 rfl ?_
  refine E_if_lt 16 dX9_has_1 (by decide) (fun c_1 => ?_) (fun c_1 => ?_)
  · refine E_iconst (v := 0) dX9_has_16 rfl ?_
    exact E_iret dX9_has_17 rfl rfl ⟨by first | exact si_t (by simp only [i32_lt, i32_le, i32_eq, Int32.reduceToInt] at *; exact ⟨by omega, by omega⟩) | exact si_t (by simp only [i32_lt, i32_le, i32_eq, Int32.reduceToInt] at *; omega) | exact si_f (by simp only [i32_lt, i32_le, i32_eq, Int32.reduceToInt] at *; omega), rfl⟩
  · refine E_iload_n dX9_has_4 rfl ?_
    refine E_aload_n dX9_has_5 rfl ?_
    refine E_getf 10 dX9_has_6 fl_X9_49 (by decide) (hg_6 _) rfl ?_
    refine E_icmp_ge 16 dX9_has_9 (by decide) (fun c_9 => ?_) (fun c_9 => ?_)
    · refine E_iconst (v := 0) dX9_has_16 rfl ?_
      exact E_iret dX9_has_17 rfl rfl ⟨by first | exact si_t (by simp only [i32_lt, i32_le, i32_eq, Int32.reduceToInt] at *; exact ⟨by omega, by omega⟩) | exact si_t (by simp only [i32_lt, i32_le, i32_eq, Int32.reduceToInt] at *; omega) | exact si_f (by simp only [i32_lt, i32_le, i32_eq, Int32.reduceToInt] at *; omega), rfl⟩
    · refine E_iconst (v := 1) dX9_has_12 rfl ?_
      refine E_goto 17 dX9_has_13 (by decide) ?_
      exact E_iret dX9_has_17 rfl rfl ⟨by first | exact si_t (by simp only [i32_lt, i32_le, i32_eq, Int32.reduceToInt] at *; exact ⟨by omega, by omega⟩) | exact si_t (by simp only [i32_lt, i32_le, i32_eq, Int32.reduceToInt] at *; omega) | exact si_f (by simp only [i32_lt, i32_le, i32_eq, Int32.reduceToInt] at *; omega), rfl⟩
theorem c_Tray_size (z : Sg) : EM mTray_size 0 0 0 [.ref 6] (hp z) (Det (some (.int (z.F 6 10))) (hp z)) := by
  refine E_aload_n dX9_size_0 rfl ?_
  refine E_getf 10 dX9_size_1 fl_X9_49 (by decide) (hg_6 _) rfl ?_
  exact E_iret dX9_size_4 rfl rfl ⟨rfl, rfl⟩
/-- what a tray's row holds at a node, or else d -/
def tg (z : Sg) (a : Nat) (x d : Int32) : Int32 := if ltN x (z.F 6 10) then z.A a x.toNatClampNeg else d
theorem tg_in {n : Nat} {x s : Int32} (h : ltN x s) (hs : s.toInt ≤ n) : vp_in x n := vp_in_iff.mpr ⟨h.1, by have := h.2; omega⟩
theorem c_kindOf (z : Sg) (hs : (z.F 6 10).toInt ≤ 60) (x : Int32) : EM mTray_kindOf 1 0 0 [.ref 6, .int x] (hp z) (Det (some (.int (tg z 7 x (-1)))) (hp z)) := by
  refine E_aload_n dX9_kindOf_0 rfl ?_
  refine E_iload_n dX9_kindOf_1 rfl ?_
  refine E_V1 dX9_kindOf_2 cv_X9_81 (by decide) (hg_6 _) rfl rfl (Nat.le_of_ble_eq_true rfl) (Nat.le_of_ble_eq_true rfl) (c_has z x) (by decide) (Nat.zero_le _) (Nat.zero_le _) ?_
  refine E_if_eq 17 dX9_kindOf_5 (by decide) (fun c_5 => ?_) (fun c_5 => ?_)
  · refine E_iconst (v := (-1)) dX9_kindOf_17 rfl ?_
    exact E_iret dX9_kindOf_18 rfl rfl ⟨by first | exact sv_if (b2i_ne c_5) | exact sv_el (b2i_e0 c_5), rfl⟩
  · refine E_aload_n dX9_kindOf_8 rfl ?_
    refine E_getf 0 dX9_kindOf_9 fl_X9_11 (by decide) (hg_6 _) rfl ?_
    refine E_iload_n dX9_kindOf_12 rfl ?_
    refine E_iald dX9_kindOf_13 (by decide) (hg_7 _) (tg_in (b2i_ne c_5) hs) ?_
    refine E_goto 18 dX9_kindOf_14 (by decide) ?_
    exact E_iret dX9_kindOf_18 rfl rfl ⟨by first | exact sv_if (b2i_ne c_5) | exact sv_el (b2i_e0 c_5), rfl⟩
theorem c_valueOf (z : Sg) (hs : (z.F 6 10).toInt ≤ 60) (x : Int32) : EM mTray_valueOf 1 0 0 [.ref 6, .int x] (hp z) (Det (some (.int (tg z 8 x (-1)))) (hp z)) := by
  refine E_aload_n dX9_valueOf_0 rfl ?_
  refine E_iload_n dX9_valueOf_1 rfl ?_
  refine E_V1 dX9_valueOf_2 cv_X9_81 (by decide) (hg_6 _) rfl rfl (Nat.le_of_ble_eq_true rfl) (Nat.le_of_ble_eq_true rfl) (c_has z x) (by decide) (Nat.zero_le _) (Nat.zero_le _) ?_
  refine E_if_eq 17 dX9_valueOf_5 (by decide) (fun c_5 => ?_) (fun c_5 => ?_)
  · refine E_iconst (v := (-1)) dX9_valueOf_17 rfl ?_
    exact E_iret dX9_valueOf_18 rfl rfl ⟨by first | exact sv_if (b2i_ne c_5) | exact sv_el (b2i_e0 c_5), rfl⟩
  · refine E_aload_n dX9_valueOf_8 rfl ?_
    refine E_getf 1 dX9_valueOf_9 fl_X9_15 (by decide) (hg_6 _) rfl ?_
    refine E_iload_n dX9_valueOf_12 rfl ?_
    refine E_iald dX9_valueOf_13 (by decide) (hg_8 _) (tg_in (b2i_ne c_5) hs) ?_
    refine E_goto 18 dX9_valueOf_14 (by decide) ?_
    exact E_iret dX9_valueOf_18 rfl rfl ⟨by first | exact sv_if (b2i_ne c_5) | exact sv_el (b2i_e0 c_5), rfl⟩
theorem c_groupOf (z : Sg) (hs : (z.F 6 10).toInt ≤ 60) (x : Int32) : EM mTray_groupOf 1 0 0 [.ref 6, .int x] (hp z) (Det (some (.int (tg z 9 x (-1)))) (hp z)) := by
  refine E_aload_n dX9_groupOf_0 rfl ?_
  refine E_iload_n dX9_groupOf_1 rfl ?_
  refine E_V1 dX9_groupOf_2 cv_X9_81 (by decide) (hg_6 _) rfl rfl (Nat.le_of_ble_eq_true rfl) (Nat.le_of_ble_eq_true rfl) (c_has z x) (by decide) (Nat.zero_le _) (Nat.zero_le _) ?_
  refine E_if_eq 17 dX9_groupOf_5 (by decide) (fun c_5 => ?_) (fun c_5 => ?_)
  · refine E_iconst (v := (-1)) dX9_groupOf_17 rfl ?_
    exact E_iret dX9_groupOf_18 rfl rfl ⟨by first | exact sv_if (b2i_ne c_5) | exact sv_el (b2i_e0 c_5), rfl⟩
  · refine E_aload_n dX9_groupOf_8 rfl ?_
    refine E_getf 2 dX9_groupOf_9 fl_X9_18 (by decide) (hg_6 _) rfl ?_
    refine E_iload_n dX9_groupOf_12 rfl ?_
    refine E_iald dX9_groupOf_13 (by decide) (hg_9 _) (tg_in (b2i_ne c_5) hs) ?_
    refine E_goto 18 dX9_groupOf_14 (by decide) ?_
    exact E_iret dX9_groupOf_18 rfl rfl ⟨by first | exact sv_if (b2i_ne c_5) | exact sv_el (b2i_e0 c_5), rfl⟩
theorem c_placeOf (z : Sg) (hs : (z.F 6 10).toInt ≤ 60) (x : Int32) : EM mTray_placeOf 1 0 0 [.ref 6, .int x] (hp z) (Det (some (.int (tg z 10 x (-1)))) (hp z)) := by
  refine E_aload_n dX9_placeOf_0 rfl ?_
  refine E_iload_n dX9_placeOf_1 rfl ?_
  refine E_V1 dX9_placeOf_2 cv_X9_81 (by decide) (hg_6 _) rfl rfl (Nat.le_of_ble_eq_true rfl) (Nat.le_of_ble_eq_true rfl) (c_has z x) (by decide) (Nat.zero_le _) (Nat.zero_le _) ?_
  refine E_if_eq 17 dX9_placeOf_5 (by decide) (fun c_5 => ?_) (fun c_5 => ?_)
  · refine E_iconst (v := (-1)) dX9_placeOf_17 rfl ?_
    exact E_iret dX9_placeOf_18 rfl rfl ⟨by first | exact sv_if (b2i_ne c_5) | exact sv_el (b2i_e0 c_5), rfl⟩
  · refine E_aload_n dX9_placeOf_8 rfl ?_
    refine E_getf 3 dX9_placeOf_9 fl_X9_21 (by decide) (hg_6 _) rfl ?_
    refine E_iload_n dX9_placeOf_12 rfl ?_
    refine E_iald dX9_placeOf_13 (by decide) (hg_10 _) (tg_in (b2i_ne c_5) hs) ?_
    refine E_goto 18 dX9_placeOf_14 (by decide) ?_
    exact E_iret dX9_placeOf_18 rfl rfl ⟨by first | exact sv_if (b2i_ne c_5) | exact sv_el (b2i_e0 c_5), rfl⟩
theorem c_firstIn (z : Sg) (hs : (z.F 6 10).toInt ≤ 60) (x : Int32) : EM mTray_firstIn 1 0 0 [.ref 6, .int x] (hp z) (Det (some (.int (tg z 12 x (-1)))) (hp z)) := by
  refine E_aload_n dX9_firstIn_0 rfl ?_
  refine E_iload_n dX9_firstIn_1 rfl ?_
  refine E_V1 dX9_firstIn_2 cv_X9_81 (by decide) (hg_6 _) rfl rfl (Nat.le_of_ble_eq_true rfl) (Nat.le_of_ble_eq_true rfl) (c_has z x) (by decide) (Nat.zero_le _) (Nat.zero_le _) ?_
  refine E_if_eq 17 dX9_firstIn_5 (by decide) (fun c_5 => ?_) (fun c_5 => ?_)
  · refine E_iconst (v := (-1)) dX9_firstIn_17 rfl ?_
    exact E_iret dX9_firstIn_18 rfl rfl ⟨by first | exact sv_if (b2i_ne c_5) | exact sv_el (b2i_e0 c_5), rfl⟩
  · refine E_aload_n dX9_firstIn_8 rfl ?_
    refine E_getf 5 dX9_firstIn_9 fl_X9_27 (by decide) (hg_6 _) rfl ?_
    refine E_iload_n dX9_firstIn_12 rfl ?_
    refine E_iald dX9_firstIn_13 (by decide) (hg_12 _) (tg_in (b2i_ne c_5) hs) ?_
    refine E_goto 18 dX9_firstIn_14 (by decide) ?_
    exact E_iret dX9_firstIn_18 rfl rfl ⟨by first | exact sv_if (b2i_ne c_5) | exact sv_el (b2i_e0 c_5), rfl⟩
theorem c_behind (z : Sg) (hs : (z.F 6 10).toInt ≤ 60) (x : Int32) : EM mTray_behind 1 0 0 [.ref 6, .int x] (hp z) (Det (some (.int (tg z 14 x (-1)))) (hp z)) := by
  refine E_aload_n dX9_behind_0 rfl ?_
  refine E_iload_n dX9_behind_1 rfl ?_
  refine E_V1 dX9_behind_2 cv_X9_81 (by decide) (hg_6 _) rfl rfl (Nat.le_of_ble_eq_true rfl) (Nat.le_of_ble_eq_true rfl) (c_has z x) (by decide) (Nat.zero_le _) (Nat.zero_le _) ?_
  refine E_if_eq 17 dX9_behind_5 (by decide) (fun c_5 => ?_) (fun c_5 => ?_)
  · refine E_iconst (v := (-1)) dX9_behind_17 rfl ?_
    exact E_iret dX9_behind_18 rfl rfl ⟨by first | exact sv_if (b2i_ne c_5) | exact sv_el (b2i_e0 c_5), rfl⟩
  · refine E_aload_n dX9_behind_8 rfl ?_
    refine E_getf 7 dX9_behind_9 fl_X9_33 (by decide) (hg_6 _) rfl ?_
    refine E_iload_n dX9_behind_12 rfl ?_
    refine E_iald dX9_behind_13 (by decide) (hg_14 _) (tg_in (b2i_ne c_5) hs) ?_
    refine E_goto 18 dX9_behind_14 (by decide) ?_
    exact E_iret dX9_behind_18 rfl rfl ⟨by first | exact sv_if (b2i_ne c_5) | exact sv_el (b2i_e0 c_5), rfl⟩
theorem c_lightsOf (z : Sg) (hs : (z.F 6 10).toInt ≤ 60) (x : Int32) : EM mTray_lightsOf 1 0 0 [.ref 6, .int x] (hp z) (Det (some (.int (tg z 11 x 0))) (hp z)) := by
  refine E_aload_n dX9_lightsOf_0 rfl ?_
  refine E_iload_n dX9_lightsOf_1 rfl ?_
  refine E_V1 dX9_lightsOf_2 cv_X9_81 (by decide) (hg_6 _) rfl rfl (Nat.le_of_ble_eq_true rfl) (Nat.le_of_ble_eq_true rfl) (c_has z x) (by decide) (Nat.zero_le _) (Nat.zero_le _) ?_
  refine E_if_eq 17 dX9_lightsOf_5 (by decide) (fun c_5 => ?_) (fun c_5 => ?_)
  · refine E_iconst (v := 0) dX9_lightsOf_17 rfl ?_
    exact E_iret dX9_lightsOf_18 rfl rfl ⟨by first | exact sv_if (b2i_ne c_5) | exact sv_el (b2i_e0 c_5), rfl⟩
  · refine E_aload_n dX9_lightsOf_8 rfl ?_
    refine E_getf 4 dX9_lightsOf_9 fl_X9_24 (by decide) (hg_6 _) rfl ?_
    refine E_iload_n dX9_lightsOf_12 rfl ?_
    refine E_iald dX9_lightsOf_13 (by decide) (hg_11 _) (tg_in (b2i_ne c_5) hs) ?_
    refine E_goto 18 dX9_lightsOf_14 (by decide) ?_
    exact E_iret dX9_lightsOf_18 rfl rfl ⟨by first | exact sv_if (b2i_ne c_5) | exact sv_el (b2i_e0 c_5), rfl⟩
/-- kinds that bear a value -/
abbrev hasV (x : Int32) : Prop := x = 1 ∨ x = 4 ∨ x = 6
theorem c_hasValue (z : HP) (x : Int32) : EM mTray_hasValue 0 0 0 [.int x] z (Det (some (.int (b2i (hasV x)))) z) := by
  refine E_iload_n dX9_hasValue_0 rfl ?_
  refine E_iconst (v := 1) dX9_hasValue_1 rfl ?_
  refine E_icmp_eq 16 dX9_hasValue_2 (by decide) (fun c_2 => ?_) (fun c_2 => ?_)
  · refine E_iconst (v := 1) dX9_hasValue_16 rfl ?_
    refine E_goto 21 dX9_hasValue_17 (by decide) ?_
    exact E_iret dX9_hasValue_21 rfl rfl ⟨by first | exact si_t (by simp_all [hasV]; done) | exact si_f (by simp_all [hasV]; done), rfl⟩
  · refine E_iload_n dX9_hasValue_5 rfl ?_
    refine E_iconst (v := 4) dX9_hasValue_6 rfl ?_
    refine E_icmp_eq 16 dX9_hasValue_7 (by decide) (fun c_7 => ?_) (fun c_7 => ?_)
    · refine E_iconst (v := 1) dX9_hasValue_16 rfl ?_
      refine E_goto 21 dX9_hasValue_17 (by decide) ?_
      exact E_iret dX9_hasValue_21 rfl rfl ⟨by first | exact si_t (by simp_all [hasV]; done) | exact si_f (by simp_all [hasV]; done), rfl⟩
    · refine E_iload_n dX9_hasValue_10 rfl ?_
      refine E_bipush (v := 6) dX9_hasValue_11 rfl ?_
      refine E_icmp_ne 20 dX9_hasValue_13 (by decide) (fun c_13 => ?_) (fun c_13 => ?_)
      · refine E_iconst (v := 0) dX9_hasValue_20 rfl ?_
        exact E_iret dX9_hasValue_21 rfl rfl ⟨by first | exact si_t (by simp_all [hasV]; done) | exact si_f (by simp_all [hasV]; done), rfl⟩
      · refine E_iconst (v := 1) dX9_hasValue_16 rfl ?_
        refine E_goto 21 dX9_hasValue_17 (by decide) ?_
        exact E_iret dX9_hasValue_21 rfl rfl ⟨by first | exact si_t (by simp_all [hasV]; done) | exact si_f (by simp_all [hasV]; done), rfl⟩
abbrev takesP (k v : Int32) : Prop := if k = 1 then isL v ∨ v = 32 else inB k 0 6 ∧ (hasV k → inB v 0 4)
theorem c_takes (z : HP) (x v : Int32) : EM mTray_takes 1 0 0 [.int x, .int v] z (Det (some (.int (b2i (takesP x v)))) z) := by
  refine E_iload_n dX9_takes_0 rfl ?_
  refine E_iconst (v := 1) dX9_takes_1 rfl ?_
  refine E_icmp_ne 24 dX9_takes_2 (by decide) (fun c_2 => ?_) (fun c_2 => ?_)
  · refine E_iload_n dX9_takes_24 rfl ?_
    refine E_iconst (v := 0) dX9_takes_25 rfl ?_
    refine E_bipush (v := 6) dX9_takes_26 rfl ?_
    refine E_S3 dX9_takes_28 cs_X9_68 (Nat.le_of_ble_eq_true rfl) (Nat.le_of_ble_eq_true rfl) (c_within z x 0 6) (by decide) (Nat.zero_le _) (Nat.zero_le _) ?_
    refine E_if_eq 54 dX9_takes_31 (by decide) (fun c_31 => ?_) (fun c_31 => ?_)
    · refine E_iconst (v := 0) dX9_takes_54 rfl ?_
      exact E_iret dX9_takes_55 rfl rfl ⟨by first | exact si_t (by unfold takesP; rw [if_neg c_2]; first | exact ⟨b2i_ne c_31, fun h => absurd h (b2i_e0 c_38)⟩ | exact ⟨b2i_ne c_31, fun _ => b2i_ne c_47⟩) | exact si_f (by unfold takesP; rw [if_neg c_2]; first | exact fun h => b2i_e0 c_31 h.1 | exact fun h => b2i_e0 c_47 (h.2 (b2i_ne c_38))), rfl⟩
    · refine E_iload_n dX9_takes_34 rfl ?_
      refine E_S1 dX9_takes_35 cs_X9_61 (Nat.le_of_ble_eq_true rfl) (Nat.le_of_ble_eq_true rfl) (c_hasValue z x) (by decide) (Nat.zero_le _) (Nat.zero_le _) ?_
      refine E_if_eq 50 dX9_takes_38 (by decide) (fun c_38 => ?_) (fun c_38 => ?_)
      · refine E_iconst (v := 1) dX9_takes_50 rfl ?_
        refine E_goto 55 dX9_takes_51 (by decide) ?_
        exact E_iret dX9_takes_55 rfl rfl ⟨by first | exact si_t (by unfold takesP; rw [if_neg c_2]; first | exact ⟨b2i_ne c_31, fun h => absurd h (b2i_e0 c_38)⟩ | exact ⟨b2i_ne c_31, fun _ => b2i_ne c_47⟩) | exact si_f (by unfold takesP; rw [if_neg c_2]; first | exact fun h => b2i_e0 c_31 h.1 | exact fun h => b2i_e0 c_47 (h.2 (b2i_ne c_38))), rfl⟩
      · refine E_iload_n dX9_takes_41 rfl ?_
        refine E_iconst (v := 0) dX9_takes_42 rfl ?_
        refine E_iconst (v := 4) dX9_takes_43 rfl ?_
        refine E_S3 dX9_takes_44 cs_X9_68 (Nat.le_of_ble_eq_true rfl) (Nat.le_of_ble_eq_true rfl) (c_within z v 0 4) (by decide) (Nat.zero_le _) (Nat.zero_le _) ?_
        refine E_if_eq 54 dX9_takes_47 (by decide) (fun c_47 => ?_) (fun c_47 => ?_)
        · refine E_iconst (v := 0) dX9_takes_54 rfl ?_
          exact E_iret dX9_takes_55 rfl rfl ⟨by first | exact si_t (by unfold takesP; rw [if_neg c_2]; first | exact ⟨b2i_ne c_31, fun h => absurd h (b2i_e0 c_38)⟩ | exact ⟨b2i_ne c_31, fun _ => b2i_ne c_47⟩) | exact si_f (by unfold takesP; rw [if_neg c_2]; first | exact fun h => b2i_e0 c_31 h.1 | exact fun h => b2i_e0 c_47 (h.2 (b2i_ne c_38))), rfl⟩
        · refine E_iconst (v := 1) dX9_takes_50 rfl ?_
          refine E_goto 55 dX9_takes_51 (by decide) ?_
          exact E_iret dX9_takes_55 rfl rfl ⟨by first | exact si_t (by unfold takesP; rw [if_neg c_2]; first | exact ⟨b2i_ne c_31, fun h => absurd h (b2i_e0 c_38)⟩ | exact ⟨b2i_ne c_31, fun _ => b2i_ne c_47⟩) | exact si_f (by unfold takesP; rw [if_neg c_2]; first | exact fun h => b2i_e0 c_31 h.1 | exact fun h => b2i_e0 c_47 (h.2 (b2i_ne c_38))), rfl⟩
  · refine E_iload_n dX9_takes_5 rfl ?_
    refine E_S1 dX9_takes_6 cs_X9_65 (Nat.le_of_ble_eq_true rfl) (Nat.le_of_ble_eq_true rfl) (c_isLetter z v) (by decide) (Nat.zero_le _) (Nat.zero_le _) ?_
    refine E_if_ne 18 dX9_takes_9 (by decide) (fun c_9 => ?_) (fun c_9 => ?_)
    · refine E_iconst (v := 1) dX9_takes_18 rfl ?_
      refine E_goto 23 dX9_takes_19 (by decide) ?_
      exact E_iret dX9_takes_23 rfl rfl ⟨by first | exact si_t (by unfold takesP; rw [if_pos c_2]; first | exact Or.inl (b2i_ne c_9) | exact Or.inr c_15) | exact si_f (by unfold takesP; rw [if_pos c_2]; exact fun h => h.elim (b2i_e0 c_9) c_15), rfl⟩
    · refine E_iload_n dX9_takes_12 rfl ?_
      refine E_bipush (v := 32) dX9_takes_13 rfl ?_
      refine E_icmp_ne 22 dX9_takes_15 (by decide) (fun c_15 => ?_) (fun c_15 => ?_)
      · refine E_iconst (v := 0) dX9_takes_22 rfl ?_
        exact E_iret dX9_takes_23 rfl rfl ⟨by first | exact si_t (by unfold takesP; rw [if_pos c_2]; first | exact Or.inl (b2i_ne c_9) | exact Or.inr c_15) | exact si_f (by unfold takesP; rw [if_pos c_2]; exact fun h => h.elim (b2i_e0 c_9) c_15), rfl⟩
      · refine E_iconst (v := 1) dX9_takes_18 rfl ?_
        refine E_goto 23 dX9_takes_19 (by decide) ?_
        exact E_iret dX9_takes_23 rfl rfl ⟨by first | exact si_t (by unfold takesP; rw [if_pos c_2]; first | exact Or.inl (b2i_ne c_9) | exact Or.inr c_15) | exact si_f (by unfold takesP; rw [if_pos c_2]; exact fun h => h.elim (b2i_e0 c_9) c_15), rfl⟩
end
section
/-! MORE LEAVES -/
theorem det_t {p : Prop} [Decidable p] {z1 z2 : Sg} (h : p) : Det (some (.int (b2i p))) (hp (if p then z1 else z2)) (some (.int 1)) (hp z1) := ⟨si_t h, by rw [if_pos h]⟩
theorem det_f {p : Prop} [Decidable p] {z1 z2 : Sg} (h : ¬ p) : Det (some (.int (b2i p))) (hp (if p then z1 else z2)) (some (.int 0)) (hp z2) := ⟨si_f h, by rw [if_neg h]⟩
theorem nI_w {n : Nat} (h : n < 2 ^ 31) : (nI n).toInt = (n : Int) := nI_toInt h
theorem c_get (z : Sg) (w : Nat) (hw : w ≤ 4) : EM mNumbers_get 1 0 0 [.ref 4, .int (nI w)] (hp z) (Det (some (.int (z.A 5 w))) (hp z)) := by
  have hw' : (nI w).toInt = (w : Int) := nI_toInt (by omega)
  refine E_iload_n dX4_get_0 rfl ?_
  refine E_iconst (v := 0) dX4_get_1 rfl ?_
  refine E_iconst (v := 4) dX4_get_2 rfl ?_
  refine E_S3 dX4_get_3 cs_X4_15 (Nat.le_of_ble_eq_true rfl) (Nat.le_of_ble_eq_true rfl) (c_within (hp z) (nI w) 0 4) (by decide) (Nat.zero_le _) (Nat.zero_le _) ?_
  refine E_if_eq 18 dX4_get_6 (by decide) (fun c_6 => ?_) (fun c_6 => ?_)
  · exact absurd (⟨by rw [hw']; simp, by rw [hw']; simp; omega⟩ : inB (nI w) 0 4) (b2i_e0 c_6)
  · refine E_aload_n dX4_get_9 rfl ?_
    refine E_getf 0 dX4_get_10 fl_X4_9 (by decide) (hg_4 _) rfl ?_
    refine E_iload_n dX4_get_13 rfl ?_
    refine E_iald dX4_get_14 (by decide) (hg_5 _) (vp_in_nI (by omega) (by omega)) ?_
    refine E_goto 19 dX4_get_15 (by decide) ?_
    exact E_iret dX4_get_19 rfl rfl ⟨by rw [nI_clamp (by omega)], rfl⟩
abbrev setOK (w v : Int32) : Prop := inB w 0 4 ∧ inB v (lowF w.toNatClampNeg) (highF w.toNatClampNeg)
theorem c_change (z : Sg) (w v : Int32) : EM mNumbers_change 1 0 0 [.ref 4, .int w, .int v] (hp z) (Det (some (.int (b2i (setOK w v)))) (hp (if setOK w v then stA z 5 (upd (z.A 5) w.toNatClampNeg v) else z))) := by
  refine E_iload_n dX4_change_0 rfl ?_
  refine E_iconst (v := 0) dX4_change_1 rfl ?_
  refine E_iconst (v := 4) dX4_change_2 rfl ?_
  refine E_S3 dX4_change_3 cs_X4_15 (Nat.le_of_ble_eq_true rfl) (Nat.le_of_ble_eq_true rfl) (c_within (hp z) w 0 4) (by decide) (Nat.zero_le _) (Nat.zero_le _) ?_
  refine E_if_eq 26 dX4_change_6 (by decide) (fun c_6 => ?_) (fun c_6 => ?_)
  · refine E_iconst (v := 0) dX4_change_26 rfl ?_
    exact E_iret dX4_change_27 rfl rfl (by first | exact det_f (fun h => b2i_e0 c_6 h.1) | exact det_f (fun h => b2i_e0 c_23 h.2))
  · refine E_iload_n dX4_change_9 rfl ?_
    refine E_lowest dX4_change_10 fs_X4_19 ?_
    refine E_iload_n dX4_change_13 rfl ?_
    refine E_xald dX4_change_14 (by decide) (hg_1 _) (vp_in_iff.mpr ⟨(b2i_ne c_6).1, by have := (b2i_ne c_6).2; simp only [Int32.reduceToInt] at this; omega⟩) ?_
    refine E_highest dX4_change_15 fs_X4_22 ?_
    refine E_iload_n dX4_change_18 rfl ?_
    refine E_xald dX4_change_19 (by decide) (hg_2 _) (vp_in_iff.mpr ⟨(b2i_ne c_6).1, by have := (b2i_ne c_6).2; simp only [Int32.reduceToInt] at this; omega⟩) ?_
    refine E_S3 dX4_change_20 cs_X4_15 (Nat.le_of_ble_eq_true rfl) (Nat.le_of_ble_eq_true rfl) (c_within (hp z) v _ _) (by decide) (Nat.zero_le _) (Nat.zero_le _) ?_
    refine E_if_ne 28 dX4_change_23 (by decide) (fun c_23 => ?_) (fun c_23 => ?_)
    · refine E_aload_n dX4_change_28 rfl ?_
      refine E_getf 0 dX4_change_29 fl_X4_9 (by decide) (hg_4 _) rfl ?_
      refine E_iload_n dX4_change_32 rfl ?_
      refine E_iload_n dX4_change_33 rfl ?_
      refine E_iast dX4_change_34 (by decide) (hg_5 _) (vp_in_iff.mpr ⟨(b2i_ne c_6).1, by have := (b2i_ne c_6).2; simp only [Int32.reduceToInt] at this; omega⟩) ?_
      rw [hs_5]
      refine E_iconst (v := 1) dX4_change_35 rfl ?_
      exact E_iret dX4_change_36 rfl rfl (det_t ⟨b2i_ne c_6, b2i_ne c_23⟩)
    · refine E_iconst (v := 0) dX4_change_26 rfl ?_
      exact E_iret dX4_change_27 rfl rfl (by first | exact det_f (fun h => b2i_e0 c_6 h.1) | exact det_f (fun h => b2i_e0 c_23 h.2))
theorem c_Tape_size (z : Sg) : EM mTape_size 0 0 0 [.ref 22] (hp z) (Det (some (.int (z.F 22 1))) (hp z)) := by
  refine E_aload_n dX8_size_0 rfl ?_
  refine E_getf 1 dX8_size_1 fl_X8_19 (by decide) (hg_22 _) rfl ?_
  exact E_iret dX8_size_4 rfl rfl ⟨rfl, rfl⟩
theorem c_Book_size (z : Sg) : EM mBook_size 0 0 0 [.ref 24] (hp z) (Det (some (.int (z.F 24 3))) (hp z)) := by
  refine E_aload_n dX0_size_0 rfl ?_
  refine E_getf 3 dX0_size_1 fl_X0_48 (by decide) (hg_24 _) rfl ?_
  exact E_iret dX0_size_4 rfl rfl ⟨rfl, rfl⟩
theorem c_found (z : Sg) : EM mFinder_found 0 0 0 [.ref 28] (hp z) (Det (some (.int (z.F 28 6))) (hp z)) := by
  refine E_aload_n dX2_found_0 rfl ?_
  refine E_getf 6 dX2_found_1 fl_X2_35 (by decide) (hg_28 _) rfl ?_
  exact E_iret dX2_found_4 rfl rfl ⟨rfl, rfl⟩
theorem c_undoable (z : Sg) : EM mSheet_undoable 0 0 0 [.ref 18] (hp z) (Det (some (.int (z.F 18 4))) (hp z)) := by
  refine E_aload_n dX7_undoable_0 rfl ?_
  refine E_getf 4 dX7_undoable_1 fl_X7_33 (by decide) (hg_18 _) rfl ?_
  exact E_iret dX7_undoable_4 rfl rfl ⟨rfl, rfl⟩
theorem c_thrown (z : Sg) : EM mMod_thrown 0 0 0 [.ref 39] (hp z) (Det (some (.int (z.F 39 0))) (hp z)) := by
  refine E_aload_n dX11_thrown_0 rfl ?_
  refine E_getf 0 dX11_thrown_1 fl_X11_98 (by decide) (hg_39 _) rfl ?_
  exact E_iret dX11_thrown_4 rfl rfl ⟨rfl, rfl⟩
theorem c_signAt (z : Sg) (hs : (z.F 22 1).toInt ≤ 26) (x : Int32) : EM mTape_signAt 0 0 0 [.ref 22, .int x] (hp z) (Det (some (.int (if ltN x (z.F 22 1) then z.A 23 x.toNatClampNeg else 0))) (hp z)) := by
  refine E_iload_n dX8_signAt_0 rfl ?_
  refine E_if_lt 21 dX8_signAt_1 (by decide) (fun c_1 => ?_) (fun c_1 => ?_)
  · refine E_iconst (v := 0) dX8_signAt_21 rfl ?_
    exact E_iret dX8_signAt_22 rfl rfl ⟨by first | exact sv_if (by simp only [i32_lt, i32_le, i32_eq, Int32.reduceToInt] at *; exact ⟨by omega, by omega⟩) | exact sv_el (by simp only [i32_lt, i32_le, i32_eq, Int32.reduceToInt] at *; omega), rfl⟩
  · refine E_iload_n dX8_signAt_4 rfl ?_
    refine E_aload_n dX8_signAt_5 rfl ?_
    refine E_getf 1 dX8_signAt_6 fl_X8_19 (by decide) (hg_22 _) rfl ?_
    refine E_icmp_ge 21 dX8_signAt_9 (by decide) (fun c_9 => ?_) (fun c_9 => ?_)
    · refine E_iconst (v := 0) dX8_signAt_21 rfl ?_
      exact E_iret dX8_signAt_22 rfl rfl ⟨by first | exact sv_if (by simp only [i32_lt, i32_le, i32_eq, Int32.reduceToInt] at *; exact ⟨by omega, by omega⟩) | exact sv_el (by simp only [i32_lt, i32_le, i32_eq, Int32.reduceToInt] at *; omega), rfl⟩
    · refine E_aload_n dX8_signAt_12 rfl ?_
      refine E_getf 0 dX8_signAt_13 fl_X8_11 (by decide) (hg_22 _) rfl ?_
      refine E_iload_n dX8_signAt_16 rfl ?_
      refine E_iald dX8_signAt_17 (by decide) (hg_23 _) (tg_in (s := z.F 22 1) (by simp only [i32_lt, i32_le, i32_eq, Int32.reduceToInt] at *; exact ⟨by omega, by omega⟩) hs) ?_
      refine E_goto 22 dX8_signAt_18 (by decide) ?_
      exact E_iret dX8_signAt_22 rfl rfl ⟨by first | exact sv_if (by simp only [i32_lt, i32_le, i32_eq, Int32.reduceToInt] at *; exact ⟨by omega, by omega⟩) | exact sv_el (by simp only [i32_lt, i32_le, i32_eq, Int32.reduceToInt] at *; omega), rfl⟩
theorem c_cut (z : Sg) (x : Int32) : EM mTape_cut 1 0 0 [.ref 22, .int x] (hp z) (Det (some (.int (b2i (inB x 0 (z.F 22 1))))) (hp (if inB x 0 (z.F 22 1) then stF z 22 1 x else z))) := by
  refine E_iload_n dX8_cut_0 rfl ?_
  refine E_iconst (v := 0) dX8_cut_1 rfl ?_
  refine E_aload_n dX8_cut_2 rfl ?_
  refine E_getf 1 dX8_cut_3 fl_X8_19 (by decide) (hg_22 _) rfl ?_
  refine E_S3 dX8_cut_6 cs_X8_23 (Nat.le_of_ble_eq_true rfl) (Nat.le_of_ble_eq_true rfl) (c_within (hp z) x 0 _) (by decide) (Nat.zero_le _) (Nat.zero_le _) ?_
  refine E_if_ne 14 dX8_cut_9 (by decide) (fun c_9 => ?_) (fun c_9 => ?_)
  · refine E_aload_n dX8_cut_14 rfl ?_
    refine E_iload_n dX8_cut_15 rfl ?_
    refine E_put 1 dX8_cut_16 fp_X8_19 (fitsV_int _) (by decide) (hg_22 _) (Nat.le_of_ble_eq_true rfl) ?_
    rw [hs_22_1]
    refine E_iconst (v := 1) dX8_cut_19 rfl ?_
    exact E_iret dX8_cut_20 rfl rfl (det_t (b2i_ne c_9))
  · refine E_iconst (v := 0) dX8_cut_12 rfl ?_
    exact E_iret dX8_cut_13 rfl rfl (det_f (b2i_e0 c_9))
theorem c_Book_has (z : Sg) (x : Int32) : EM mBook_has 0 0 0 [.ref 24, .int x] (hp z) (Det (some (.int (b2i (ltN x (z.F 24 3))))) (hp z)) := by
  refine E_iload_n dX0_has_0 rfl ?_
  refine E_if_lt 16 dX0_has_1 (by decide) (fun c_1 => ?_) (fun c_1 => ?_)
  · refine E_iconst (v := 0) dX0_has_16 rfl ?_
    exact E_iret dX0_has_17 rfl rfl ⟨by first | exact si_t (by simp only [i32_lt, i32_le, i32_eq, Int32.reduceToInt] at *; exact ⟨by omega, by omega⟩) | exact si_t (by simp only [i32_lt, i32_le, i32_eq, Int32.reduceToInt] at *; omega) | exact si_f (by simp only [i32_lt, i32_le, i32_eq, Int32.reduceToInt] at *; omega), rfl⟩
  · refine E_iload_n dX0_has_4 rfl ?_
    refine E_aload_n dX0_has_5 rfl ?_
    refine E_getf 3 dX0_has_6 fl_X0_48 (by decide) (hg_24 _) rfl ?_
    refine E_icmp_ge 16 dX0_has_9 (by decide) (fun c_9 => ?_) (fun c_9 => ?_)
    · refine E_iconst (v := 0) dX0_has_16 rfl ?_
      exact E_iret dX0_has_17 rfl rfl ⟨by first | exact si_t (by simp only [i32_lt, i32_le, i32_eq, Int32.reduceToInt] at *; exact ⟨by omega, by omega⟩) | exact si_t (by simp only [i32_lt, i32_le, i32_eq, Int32.reduceToInt] at *; omega) | exact si_f (by simp only [i32_lt, i32_le, i32_eq, Int32.reduceToInt] at *; omega), rfl⟩
    · refine E_iconst (v := 1) dX0_has_12 rfl ?_
      refine E_goto 17 dX0_has_13 (by decide) ?_
      exact E_iret dX0_has_17 rfl rfl ⟨by first | exact si_t (by simp only [i32_lt, i32_le, i32_eq, Int32.reduceToInt] at *; exact ⟨by omega, by omega⟩) | exact si_t (by simp only [i32_lt, i32_le, i32_eq, Int32.reduceToInt] at *; omega) | exact si_f (by simp only [i32_lt, i32_le, i32_eq, Int32.reduceToInt] at *; omega), rfl⟩
def bg (z : Sg) (a : Nat) (x : Int32) : Int32 := if ltN x (z.F 24 3) then z.A a x.toNatClampNeg else 0
theorem c_sizeOf (z : Sg) (hs : (z.F 24 3).toInt ≤ 40) (x : Int32) : EM mBook_sizeOf 1 0 0 [.ref 24, .int x] (hp z) (Det (some (.int (bg z 26 x))) (hp z)) := by
  refine E_aload_n dX0_sizeOf_0 rfl ?_
  refine E_iload_n dX0_sizeOf_1 rfl ?_
  refine E_V1 dX0_sizeOf_2 cv_X0_44 (by decide) (hg_24 _) rfl rfl (Nat.le_of_ble_eq_true rfl) (Nat.le_of_ble_eq_true rfl) (c_Book_has z x) (by decide) (Nat.zero_le _) (Nat.zero_le _) ?_
  refine E_if_eq 17 dX0_sizeOf_5 (by decide) (fun c_5 => ?_) (fun c_5 => ?_)
  · refine E_iconst (v := 0) dX0_sizeOf_17 rfl ?_
    exact E_iret dX0_sizeOf_18 rfl rfl ⟨by first | exact sv_if (b2i_ne c_5) | exact sv_el (b2i_e0 c_5), rfl⟩
  · refine E_aload_n dX0_sizeOf_8 rfl ?_
    refine E_getf 1 dX0_sizeOf_9 fl_X0_15 (by decide) (hg_24 _) rfl ?_
    refine E_iload_n dX0_sizeOf_12 rfl ?_
    refine E_iald dX0_sizeOf_13 (by decide) (hg_26 _) (tg_in (b2i_ne c_5) hs) ?_
    refine E_goto 18 dX0_sizeOf_14 (by decide) ?_
    exact E_iret dX0_sizeOf_18 rfl rfl ⟨by first | exact sv_if (b2i_ne c_5) | exact sv_el (b2i_e0 c_5), rfl⟩
theorem c_timesOf (z : Sg) (hs : (z.F 24 3).toInt ≤ 40) (x : Int32) : EM mBook_timesOf 1 0 0 [.ref 24, .int x] (hp z) (Det (some (.int (bg z 27 x))) (hp z)) := by
  refine E_aload_n dX0_timesOf_0 rfl ?_
  refine E_iload_n dX0_timesOf_1 rfl ?_
  refine E_V1 dX0_timesOf_2 cv_X0_44 (by decide) (hg_24 _) rfl rfl (Nat.le_of_ble_eq_true rfl) (Nat.le_of_ble_eq_true rfl) (c_Book_has z x) (by decide) (Nat.zero_le _) (Nat.zero_le _) ?_
  refine E_if_eq 17 dX0_timesOf_5 (by decide) (fun c_5 => ?_) (fun c_5 => ?_)
  · refine E_iconst (v := 0) dX0_timesOf_17 rfl ?_
    exact E_iret dX0_timesOf_18 rfl rfl ⟨by first | exact sv_if (b2i_ne c_5) | exact sv_el (b2i_e0 c_5), rfl⟩
  · refine E_aload_n dX0_timesOf_8 rfl ?_
    refine E_getf 2 dX0_timesOf_9 fl_X0_18 (by decide) (hg_24 _) rfl ?_
    refine E_iload_n dX0_timesOf_12 rfl ?_
    refine E_iald dX0_timesOf_13 (by decide) (hg_27 _) (tg_in (b2i_ne c_5) hs) ?_
    refine E_goto 18 dX0_timesOf_14 (by decide) ?_
    exact E_iret dX0_timesOf_18 rfl rfl ⟨by first | exact sv_if (b2i_ne c_5) | exact sv_el (b2i_e0 c_5), rfl⟩
theorem c_foundAt (z : Sg) (hs : (z.F 28 6).toInt ≤ 40) (x : Int32) : EM mFinder_foundAt 0 0 0 [.ref 28, .int x] (hp z) (Det (some (.int (if ltN x (z.F 28 6) then z.A 30 x.toNatClampNeg else (-1)))) (hp z)) := by
  refine E_iload_n dX2_foundAt_0 rfl ?_
  refine E_if_lt 21 dX2_foundAt_1 (by decide) (fun c_1 => ?_) (fun c_1 => ?_)
  · refine E_iconst (v := (-1)) dX2_foundAt_21 rfl ?_
    exact E_iret dX2_foundAt_22 rfl rfl ⟨by first | exact sv_if (by simp only [i32_lt, i32_le, i32_eq, Int32.reduceToInt] at *; exact ⟨by omega, by omega⟩) | exact sv_el (by simp only [i32_lt, i32_le, i32_eq, Int32.reduceToInt] at *; omega), rfl⟩
  · refine E_iload_n dX2_foundAt_4 rfl ?_
    refine E_aload_n dX2_foundAt_5 rfl ?_
    refine E_getf 6 dX2_foundAt_6 fl_X2_35 (by decide) (hg_28 _) rfl ?_
    refine E_icmp_ge 21 dX2_foundAt_9 (by decide) (fun c_9 => ?_) (fun c_9 => ?_)
    · refine E_iconst (v := (-1)) dX2_foundAt_21 rfl ?_
      exact E_iret dX2_foundAt_22 rfl rfl ⟨by first | exact sv_if (by simp only [i32_lt, i32_le, i32_eq, Int32.reduceToInt] at *; exact ⟨by omega, by omega⟩) | exact sv_el (by simp only [i32_lt, i32_le, i32_eq, Int32.reduceToInt] at *; omega), rfl⟩
    · refine E_aload_n dX2_foundAt_12 rfl ?_
      refine E_getf 4 dX2_foundAt_13 fl_X2_17 (by decide) (hg_28 _) rfl ?_
      refine E_iload_n dX2_foundAt_16 rfl ?_
      refine E_iald dX2_foundAt_17 (by decide) (hg_30 _) (tg_in (s := z.F 28 6) (by simp only [i32_lt, i32_le, i32_eq, Int32.reduceToInt] at *; exact ⟨by omega, by omega⟩) hs) ?_
      refine E_goto 22 dX2_foundAt_18 (by decide) ?_
      exact E_iret dX2_foundAt_22 rfl rfl ⟨by first | exact sv_if (by simp only [i32_lt, i32_le, i32_eq, Int32.reduceToInt] at *; exact ⟨by omega, by omega⟩) | exact sv_el (by simp only [i32_lt, i32_le, i32_eq, Int32.reduceToInt] at *; omega), rfl⟩
theorem letter_sub {x : Int32} (h : isL x) : ∃ j : Nat, j < 26 ∧ x - 97 = nI j ∧ x = nI (97 + j) := by
  obtain ⟨h1, h2⟩ := h
  refine ⟨(x.toInt - 97).toNat, by omega, ?_, ?_⟩
  · apply Int32.toInt_inj.mp
    rw [nI_toInt (by omega), Int32.toInt_sub, show ((97 : Int32).toInt) = 97 from rfl, Int.bmod_eq_of_le (by omega) (by omega)]
    omega
  · apply Int32.toInt_inj.mp
    rw [nI_toInt (by omega)]
    omega
theorem letter_in {x : Int32} (h : isL x) : vp_in (x - 97) 26 := by
  obtain ⟨j, h1, h2, -⟩ := letter_sub h
  rw [h2]
  exact vp_in_nI h1 (by omega)
abbrev shareOK (x v : Int32) : Prop := isL x ∧ inB v 0 1000
theorem c_Shares_change (z : Sg) (x v : Int32) : EM mShares_change 1 0 0 [.ref 32, .int x, .int v] (hp z) (Det (some (.int (b2i (shareOK x v)))) (hp (if shareOK x v then stA z 33 (upd (z.A 33) (x - 97).toNatClampNeg v) else z))) := by
  refine E_iload_n dX6_change_0 rfl ?_
  refine E_S1 dX6_change_1 cs_X6_26 (Nat.le_of_ble_eq_true rfl) (Nat.le_of_ble_eq_true rfl) (c_isLetter (hp z) x) (by decide) (Nat.zero_le _) (Nat.zero_le _) ?_
  refine E_if_eq 18 dX6_change_4 (by decide) (fun c_4 => ?_) (fun c_4 => ?_)
  · refine E_iconst (v := 0) dX6_change_18 rfl ?_
    exact E_iret dX6_change_19 rfl rfl (by first | exact det_f (fun h => b2i_e0 c_4 h.1) | exact det_f (fun h => b2i_e0 c_15 h.2))
  · refine E_iload_n dX6_change_7 rfl ?_
    refine E_iconst (v := 0) dX6_change_8 rfl ?_
    refine E_sipush (v := 1000) dX6_change_9 rfl ?_
    refine E_S3 dX6_change_12 cs_X6_30 (Nat.le_of_ble_eq_true rfl) (Nat.le_of_ble_eq_true rfl) (c_within (hp z) v 0 1000) (by decide) (Nat.zero_le _) (Nat.zero_le _) ?_
    refine E_if_ne 20 dX6_change_15 (by decide) (fun c_15 => ?_) (fun c_15 => ?_)
    · refine E_aload_n dX6_change_20 rfl ?_
      refine E_getf 2 dX6_change_21 fl_X6_9 (by decide) (hg_32 _) rfl ?_
      refine E_iload_n dX6_change_24 rfl ?_
      refine E_bipush (v := 97) dX6_change_25 rfl ?_
      refine E_isub dX6_change_27 ?_
      refine E_iload_n dX6_change_28 rfl ?_
      refine E_iast dX6_change_29 (by decide) (hg_33 _) (letter_in (b2i_ne c_4)) ?_
      rw [hs_33]
      refine E_iconst (v := 1) dX6_change_30 rfl ?_
      exact E_iret dX6_change_31 rfl rfl (det_t ⟨b2i_ne c_4, b2i_ne c_15⟩)
    · refine E_iconst (v := 0) dX6_change_18 rfl ?_
      exact E_iret dX6_change_19 rfl rfl (by first | exact det_f (fun h => b2i_e0 c_4 h.1) | exact det_f (fun h => b2i_e0 c_15 h.2))
theorem c_shareOf (z : Sg) (x : Int32) : EM mShares_shareOf 1 0 0 [.ref 32, .int x] (hp z) (Det (some (.int (if isL x then z.A 33 (x - 97).toNatClampNeg else 0))) (hp z)) := by
  refine E_iload_n dX6_shareOf_0 rfl ?_
  refine E_S1 dX6_shareOf_1 cs_X6_26 (Nat.le_of_ble_eq_true rfl) (Nat.le_of_ble_eq_true rfl) (c_isLetter (hp z) x) (by decide) (Nat.zero_le _) (Nat.zero_le _) ?_
  refine E_if_eq 19 dX6_shareOf_4 (by decide) (fun c_4 => ?_) (fun c_4 => ?_)
  · refine E_iconst (v := 0) dX6_shareOf_19 rfl ?_
    exact E_iret dX6_shareOf_20 rfl rfl ⟨by first | exact sv_if (b2i_ne c_4) | exact sv_el (b2i_e0 c_4), rfl⟩
  · refine E_aload_n dX6_shareOf_7 rfl ?_
    refine E_getf 2 dX6_shareOf_8 fl_X6_9 (by decide) (hg_32 _) rfl ?_
    refine E_iload_n dX6_shareOf_11 rfl ?_
    refine E_bipush (v := 97) dX6_shareOf_12 rfl ?_
    refine E_isub dX6_shareOf_14 ?_
    refine E_iald dX6_shareOf_15 (by decide) (hg_33 _) (letter_in (b2i_ne c_4)) ?_
    refine E_goto 20 dX6_shareOf_16 (by decide) ?_
    exact E_iret dX6_shareOf_20 rfl rfl ⟨by first | exact sv_if (b2i_ne c_4) | exact sv_el (b2i_e0 c_4), rfl⟩
abbrev isPt (a b : Int32) : Prop := 0 ≤ a.toInt ∧ a.toInt < b.toInt ∧ b.toInt < 27
theorem c_isPart (z : HP) (a b : Int32) : EM mPlan_isPart 0 0 0 [.int a, .int b] z (Det (some (.int (b2i (isPt a b)))) z) := by
  refine E_iload_n dX5_isPart_0 rfl ?_
  refine E_if_lt 19 dX5_isPart_1 (by decide) (fun c_1 => ?_) (fun c_1 => ?_)
  · refine E_iconst (v := 0) dX5_isPart_19 rfl ?_
    exact E_iret dX5_isPart_20 rfl rfl ⟨by first | exact si_t (by simp only [i32_lt, i32_le, i32_eq, Int32.reduceToInt] at *; exact ⟨by omega, by omega, by omega⟩) | exact si_f (by simp only [i32_lt, i32_le, i32_eq, Int32.reduceToInt] at *; omega), rfl⟩
  · refine E_iload_n dX5_isPart_4 rfl ?_
    refine E_iload_n dX5_isPart_5 rfl ?_
    refine E_icmp_ge 19 dX5_isPart_6 (by decide) (fun c_6 => ?_) (fun c_6 => ?_)
    · refine E_iconst (v := 0) dX5_isPart_19 rfl ?_
      exact E_iret dX5_isPart_20 rfl rfl ⟨by first | exact si_t (by simp only [i32_lt, i32_le, i32_eq, Int32.reduceToInt] at *; exact ⟨by omega, by omega, by omega⟩) | exact si_f (by simp only [i32_lt, i32_le, i32_eq, Int32.reduceToInt] at *; omega), rfl⟩
    · refine E_iload_n dX5_isPart_9 rfl ?_
      refine E_bipush (v := 27) dX5_isPart_10 rfl ?_
      refine E_icmp_ge 19 dX5_isPart_12 (by decide) (fun c_12 => ?_) (fun c_12 => ?_)
      · refine E_iconst (v := 0) dX5_isPart_19 rfl ?_
        exact E_iret dX5_isPart_20 rfl rfl ⟨by first | exact si_t (by simp only [i32_lt, i32_le, i32_eq, Int32.reduceToInt] at *; exact ⟨by omega, by omega, by omega⟩) | exact si_f (by simp only [i32_lt, i32_le, i32_eq, Int32.reduceToInt] at *; omega), rfl⟩
      · refine E_iconst (v := 1) dX5_isPart_15 rfl ?_
        refine E_goto 20 dX5_isPart_16 (by decide) ?_
        exact E_iret dX5_isPart_20 rfl rfl ⟨by first | exact si_t (by simp only [i32_lt, i32_le, i32_eq, Int32.reduceToInt] at *; exact ⟨by omega, by omega, by omega⟩) | exact si_f (by simp only [i32_lt, i32_le, i32_eq, Int32.reduceToInt] at *; omega), rfl⟩
theorem c_sumOf (z : Sg) (a b : Int32) : EM mPlan_sumOf 1 0 0 [.ref 35, .int a, .int b] (hp z) (Det (some (.int (if isPt a b then z.A 36 b.toNatClampNeg - z.A 36 a.toNatClampNeg else 0))) (hp z)) := by
  refine E_iload_n dX5_sumOf_0 rfl ?_
  refine E_iload_n dX5_sumOf_1 rfl ?_
  refine E_S2 dX5_sumOf_2 cs_X5_65 (Nat.le_of_ble_eq_true rfl) (Nat.le_of_ble_eq_true rfl) (c_isPart (hp z) a b) (by decide) (Nat.zero_le _) (Nat.zero_le _) ?_
  refine E_if_eq 24 dX5_sumOf_5 (by decide) (fun c_5 => ?_) (fun c_5 => ?_)
  · refine E_iconst (v := 0) dX5_sumOf_24 rfl ?_
    exact E_iret dX5_sumOf_25 rfl rfl ⟨by first | exact sv_if (b2i_ne c_5) | exact sv_el (b2i_e0 c_5), rfl⟩
  · refine E_aload_n dX5_sumOf_8 rfl ?_
    refine E_getf 2 dX5_sumOf_9 fl_X5_13 (by decide) (hg_35 _) rfl ?_
    refine E_iload_n dX5_sumOf_12 rfl ?_
    refine E_iald dX5_sumOf_13 (by decide) (hg_36 _) (vp_in_iff.mpr (by have := b2i_ne c_5; exact ⟨by omega, by omega⟩)) ?_
    refine E_aload_n dX5_sumOf_14 rfl ?_
    refine E_getf 2 dX5_sumOf_15 fl_X5_13 (by decide) (hg_35 _) rfl ?_
    refine E_iload_n dX5_sumOf_18 rfl ?_
    refine E_iald dX5_sumOf_19 (by decide) (hg_36 _) (vp_in_iff.mpr (by have := b2i_ne c_5; exact ⟨by omega, by omega⟩)) ?_
    refine E_isub dX5_sumOf_20 ?_
    refine E_goto 25 dX5_sumOf_21 (by decide) ?_
    exact E_iret dX5_sumOf_25 rfl rfl ⟨by first | exact sv_if (b2i_ne c_5) | exact sv_el (b2i_e0 c_5), rfl⟩
end
section
/-! LOCALS BY PLACE; Arrays.fill; the tray's small writers -/
theorem E.pick {y : MI} {d k n pc : Nat} {lv lv' : List (Nat × Value)} {st : List Value} {h : HP} {Q : Option Value → HP → Prop} (is : List Nat) (hl : is.filterMap (fun i => lv[i]?) = lv') (hE : E y d k n pc lv' st h Q) : E y d k n pc lv st h Q := by
  refine E.locals lv' (fun q hq => ?_) hE
  rw [← hl] at hq
  obtain ⟨i, -, hi⟩ := List.mem_filterMap.mp hq
  exact List.mem_of_getElem? hi
theorem A_stA (z : Sg) (i : Nat) (f : Nat → Int32) (k : Nat) : (stA z i f).A k = if k = i then f else z.A k := rfl
theorem A_stF (z : Sg) (i j : Nat) (v : Int32) : (stF z i j v).A = z.A := rfl
theorem A_stL (z : Sg) (i : Nat) (f : Nat → Int64) : (stL z i f).A = z.A := rfl
theorem A_stT (z : Sg) (t : Nat) : (stT z t).A = z.A := rfl
theorem A_stS (z : Sg) (t : Option Nat) : (stS z t).A = z.A := rfl
theorem A_stP (z : Sg) (i : Nat) (f : Nat → Option Nat) : (stP z i f).A = z.A := rfl
theorem A_stD (z : Sg) (w : HP) : (stD z w).A = z.A := rfl
theorem F_stA (z : Sg) (i : Nat) (f : Nat → Int32) : (stA z i f).F = z.F := rfl
theorem F_stF (z : Sg) (i j : Nat) (v : Int32) (k l : Nat) : (stF z i j v).F k l = if k = i then (if l = j then v else z.F i l) else z.F k l := by
  show (va_up z.F i (upd (z.F i) j v)) k l = _
  unfold va_up upd
  by_cases h : k = i
  · simp [h]
  · simp [h]
theorem F_stL (z : Sg) (i : Nat) (f : Nat → Int64) : (stL z i f).F = z.F := rfl
theorem F_stT (z : Sg) (t : Nat) : (stT z t).F = z.F := rfl
theorem F_stS (z : Sg) (t : Option Nat) : (stS z t).F = z.F := rfl
theorem F_stP (z : Sg) (i : Nat) (f : Nat → Option Nat) : (stP z i f).F = z.F := rfl
theorem F_stD (z : Sg) (w : HP) : (stD z w).F = z.F := rfl
theorem L_stA (z : Sg) (i : Nat) (f : Nat → Int32) : (stA z i f).L = z.L := rfl
theorem L_stF (z : Sg) (i j : Nat) (v : Int32) : (stF z i j v).L = z.L := rfl
theorem L_stL (z : Sg) (i : Nat) (f : Nat → Int64) (k : Nat) : (stL z i f).L k = if k = i then f else z.L k := rfl
theorem L_stT (z : Sg) (t : Nat) : (stT z t).L = z.L := rfl
theorem L_stS (z : Sg) (t : Option Nat) : (stS z t).L = z.L := rfl
theorem L_stP (z : Sg) (i : Nat) (f : Nat → Option Nat) : (stP z i f).L = z.L := rfl
theorem L_stD (z : Sg) (w : HP) : (stD z w).L = z.L := rfl
theorem T_stA (z : Sg) (i : Nat) (f : Nat → Int32) : (stA z i f).T = z.T := rfl
theorem T_stF (z : Sg) (i j : Nat) (v : Int32) : (stF z i j v).T = z.T := rfl
theorem T_stL (z : Sg) (i : Nat) (f : Nat → Int64) : (stL z i f).T = z.T := rfl
theorem T_stT (z : Sg) (t : Nat) : (stT z t).T = t := rfl
theorem T_stS (z : Sg) (t : Option Nat) : (stS z t).T = z.T := rfl
theorem T_stP (z : Sg) (i : Nat) (f : Nat → Option Nat) : (stP z i f).T = z.T := rfl
theorem T_stD (z : Sg) (w : HP) : (stD z w).T = z.T := rfl
theorem S_stA (z : Sg) (i : Nat) (f : Nat → Int32) : (stA z i f).S = z.S := rfl
theorem S_stF (z : Sg) (i j : Nat) (v : Int32) : (stF z i j v).S = z.S := rfl
theorem S_stL (z : Sg) (i : Nat) (f : Nat → Int64) : (stL z i f).S = z.S := rfl
theorem S_stT (z : Sg) (t : Nat) : (stT z t).S = z.S := rfl
theorem S_stS (z : Sg) (t : Option Nat) : (stS z t).S = t := rfl
theorem S_stP (z : Sg) (i : Nat) (f : Nat → Option Nat) : (stP z i f).S = z.S := rfl
theorem S_stD (z : Sg) (w : HP) : (stD z w).S = z.S := rfl
theorem P_stA (z : Sg) (i : Nat) (f : Nat → Int32) : (stA z i f).P = z.P := rfl
theorem P_stF (z : Sg) (i j : Nat) (v : Int32) : (stF z i j v).P = z.P := rfl
theorem P_stL (z : Sg) (i : Nat) (f : Nat → Int64) : (stL z i f).P = z.P := rfl
theorem P_stT (z : Sg) (t : Nat) : (stT z t).P = z.P := rfl
theorem P_stS (z : Sg) (t : Option Nat) : (stS z t).P = z.P := rfl
theorem P_stP (z : Sg) (i : Nat) (f : Nat → Option Nat) (k : Nat) : (stP z i f).P k = if k = i then f else z.P k := rfl
theorem P_stD (z : Sg) (w : HP) : (stD z w).P = z.P := rfl
theorem X_stA (z : Sg) (i : Nat) (f : Nat → Int32) : (stA z i f).X = z.X := rfl
theorem X_stF (z : Sg) (i j : Nat) (v : Int32) : (stF z i j v).X = z.X := rfl
theorem X_stL (z : Sg) (i : Nat) (f : Nat → Int64) : (stL z i f).X = z.X := rfl
theorem X_stT (z : Sg) (t : Nat) : (stT z t).X = z.X := rfl
theorem X_stS (z : Sg) (t : Option Nat) : (stS z t).X = z.X := rfl
theorem X_stP (z : Sg) (i : Nat) (f : Nat → Option Nat) : (stP z i f).X = z.X := rfl
theorem X_stD (z : Sg) (w : HP) : (stD z w).X = z.X := rfl
theorem D_stA (z : Sg) (i : Nat) (f : Nat → Int32) : (stA z i f).D = z.D := rfl
theorem D_stF (z : Sg) (i j : Nat) (v : Int32) : (stF z i j v).D = z.D := rfl
theorem D_stL (z : Sg) (i : Nat) (f : Nat → Int64) : (stL z i f).D = z.D := rfl
theorem D_stT (z : Sg) (t : Nat) : (stT z t).D = z.D := rfl
theorem D_stS (z : Sg) (t : Option Nat) : (stS z t).D = z.D := rfl
theorem D_stP (z : Sg) (i : Nat) (f : Nat → Option Nat) : (stP z i f).D = z.D := rfl
theorem D_stD (z : Sg) (w : HP) : (stD z w).D = w := rfl
theorem stA_self (z : Sg) (a : Nat) : stA z a (z.A a) = z := by
  refine Prod.ext (funext fun j => ?_) rfl
  show va_up z.A a (z.A a) j = z.A j
  unfold va_up
  by_cases h : j = a
  · simp [h]
  · simp [h]
theorem stA_stA (z : Sg) (a : Nat) (f g : Nat → Int32) : stA (stA z a f) a g = stA z a g := by
  unfold stA
  rw [bx_uu]
theorem l_fill {n a : Nat} (ha : 3 ≤ a) (hn : n < 2 ^ 31) (hga : ∀ z : Sg, (hp z)[a]? = some (.inl (0, n, .inl (z.A a)))) (hsa : ∀ (z : Sg) (f : Nat → Int32), (hp z).set a (.inl (0, n, .inl f)) = hp (stA z a f)) (z : Sg) (v : Int32) :
    ∀ (m i : Nat) (z' : Sg), i + m = n → z' = stA z a (fun j => if j < i then v else z.A a j) → E mArrays_fill 0 0 0 5 [(0, .ref a), (1, .int v), (2, .int (nI i)), (3, .int (nI n))] [] (hp z') (Det none (hp (stA z a (fun j => if j < n then v else z.A a j)))) := by
  intro m
  induction m with
  | zero =>
    intro i z' hi hz
    refine E_iload_n dJ7_fill_53178_5 rfl ?_
    refine E_iload_n dJ7_fill_53178_6 rfl ?_
    refine E_icmp_ge 20 dJ7_fill_53178_7 (by decide) (fun c_7 => ?_) (fun c_7 => ?_)
    · exact E_vret dJ7_fill_53178_20 rfl ⟨rfl, by rw [hz, show i = n by omega]⟩
    · exact absurd (nI_le (by omega) (by omega)) c_7
  | succ m ih =>
    intro i z' hi hz
    refine E_iload_n dJ7_fill_53178_5 rfl ?_
    refine E_iload_n dJ7_fill_53178_6 rfl ?_
    refine E_icmp_ge 20 dJ7_fill_53178_7 (by decide) (fun c_7 => ?_) (fun c_7 => ?_)
    · exact absurd c_7 (nI_ge (by omega) (by omega))
    · refine E_aload_n dJ7_fill_53178_10 rfl ?_
      refine E_iload_n dJ7_fill_53178_11 rfl ?_
      refine E_iload_n dJ7_fill_53178_12 rfl ?_
      refine E_iast dJ7_fill_53178_13 ha (hga _) (vp_in_nI (by omega) (by omega)) ?_
      rw [hsa, nI_clamp (by omega)]
      refine E_iincL 1 dJ7_fill_53178_14 rfl rfl (by decide) rfl ?_
      rw [nI_1]
      refine E_goto 5 dJ7_fill_53178_17 (by decide) ?_
      refine E.pick [1, 2, 0, 3] rfl ?_
      refine ih (i + 1) _ (by omega) ?_
      rw [hz, stA_stA]
      congr 1
      funext j
      by_cases h1 : j = i
      · subst h1; simp [upd, A_stA]
      · by_cases h2 : j < i
        · simp [upd, A_stA, h1, h2, Nat.lt_succ_of_lt h2]
        · simp [upd, A_stA, h1, h2, show ¬ j < i + 1 by omega]
theorem c_fill {n a : Nat} (ha : 3 ≤ a) (hn : n < 2 ^ 31) (hga : ∀ z : Sg, (hp z)[a]? = some (.inl (0, n, .inl (z.A a)))) (hsa : ∀ (z : Sg) (f : Nat → Int32), (hp z).set a (.inl (0, n, .inl f)) = hp (stA z a f)) (z : Sg) (v : Int32) :
    EM mArrays_fill 0 0 0 [.ref a, .int v] (hp z) (Det none (hp (stA z a (fun j => if j < n then v else z.A a j)))) := by
  refine E_iconst (v := 0) dJ7_fill_53178_0 rfl ?_
  refine E_istore_n dJ7_fill_53178_1 (by decide) rfl ?_
  refine E_aload_n dJ7_fill_53178_2 rfl ?_
  refine E_alen dJ7_fill_53178_3 ha (hga _) rfl ?_
  refine E_istore_n dJ7_fill_53178_4 (by decide) rfl ?_
  refine E.pick [2, 3, 1, 0] rfl ?_
  refine l_fill ha hn hga hsa z v n 0 z (by omega) ?_
  simp only [Nat.not_lt_zero, if_false]
  exact (stA_self z a).symm
theorem c_empty (z : Sg) : EM mTray_empty 0 0 0 [.ref 6] (hp z) (Det none (hp (stF (stA (stA (stA z 7 (upd (z.A 7) 0 0)) 8 (upd (z.A 8) 0 (-1))) 9 (upd (z.A 9) 0 (-1))) 6 10 1))) := by
  refine E_aload_n dX9_empty_0 rfl ?_
  refine E_getf 0 dX9_empty_1 fl_X9_11 (by decide) (hg_6 _) rfl ?_
  refine E_iconst (v := 0) dX9_empty_4 rfl ?_
  refine E_iconst (v := 0) dX9_empty_5 rfl ?_
  refine E_iast dX9_empty_6 (by decide) (hg_7 _) (vp_in_nI (n := 0) (by decide) (by decide)) ?_
  rw [hs_7]
  refine E_aload_n dX9_empty_7 rfl ?_
  refine E_getf 1 dX9_empty_8 fl_X9_15 (by decide) (hg_6 _) rfl ?_
  refine E_iconst (v := 0) dX9_empty_11 rfl ?_
  refine E_iconst (v := (-1)) dX9_empty_12 rfl ?_
  refine E_iast (f := z.A 8) dX9_empty_13 (by decide) (hg_8 _) (vp_in_nI (n := 0) (by decide) (by decide)) ?_
  rw [hs_8]
  refine E_aload_n dX9_empty_14 rfl ?_
  refine E_getf 2 dX9_empty_15 fl_X9_18 (by decide) (hg_6 _) rfl ?_
  refine E_iconst (v := 0) dX9_empty_18 rfl ?_
  refine E_iconst (v := (-1)) dX9_empty_19 rfl ?_
  refine E_iast (f := z.A 9) dX9_empty_20 (by decide) (hg_9 _) (vp_in_nI (n := 0) (by decide) (by decide)) ?_
  rw [hs_9]
  refine E_aload_n dX9_empty_21 rfl ?_
  refine E_iconst (v := 1) dX9_empty_22 rfl ?_
  refine E_put 10 dX9_empty_23 fp_X9_49 (fitsV_int _) (by decide) (hg_6 _) (Nat.le_of_ble_eq_true rfl) ?_
  rw [hs_6_10]
  exact E_vret dX9_empty_26 rfl ⟨rfl, rfl⟩
end
section
/-! THE TRAY: add, join, standBehind, findLighted, findLights, areNeighbours -/
theorem i32_ac (a b : Int32) : a + b - b = a := by
  apply Int32.toBitVec_inj.mp
  simp
abbrev addOK (z : Sg) (g k v : Int32) : Prop := (z.F 6 10).toInt < 60 ∧ tg z 7 g (-1) = 0 ∧ takesP k v
def zadd (z : Sg) (g k v : Int32) : Sg :=
  stF (stA (stA (stA z 7 (upd (z.A 7) (z.F 6 10).toNatClampNeg k)) 8 (upd (z.A 8) (z.F 6 10).toNatClampNeg (if hasV k then v else -1))) 9 (upd (z.A 9) (z.F 6 10).toNatClampNeg g)) 6 10 (z.F 6 10 + 1)
theorem c_add (z : Sg) (h0 : 0 ≤ (z.F 6 10).toInt) (hs : (z.F 6 10).toInt ≤ 60) (g k v : Int32) : EM mTray_add 2 0 0 [.ref 6, .int g, .int k, .int v] (hp z) (Det (some (.int (if addOK z g k v then z.F 6 10 else (-1)))) (hp (if addOK z g k v then zadd z g k v else z))) := by
  refine E_aload_n dX9_add_0 rfl ?_
  refine E_getf 10 dX9_add_1 fl_X9_49 (by decide) (hg_6 _) rfl ?_
  refine E_bipush (v := 60) dX9_add_4 rfl ?_
  refine E_icmp_ge 25 dX9_add_6 (by decide) (fun c_6 => ?_) (fun c_6 => ?_)
  · refine E_iconst (v := (-1)) dX9_add_25 rfl ?_
    exact E_iret dX9_add_26 rfl rfl (by first | exact ⟨sv_el (fun h => by have := h.1; rw [i32_le] at c_6; simp only [Int32.reduceToInt] at c_6; omega), by rw [if_neg (fun h : addOK z g k v => by have := h.1; rw [i32_le] at c_6; simp only [Int32.reduceToInt] at c_6; omega)]⟩ | exact ⟨sv_el (fun h => c_14 h.2.1), by rw [if_neg (fun h : addOK z g k v => c_14 h.2.1)]⟩ | exact ⟨sv_el (fun h => b2i_e0 c_22 h.2.2), by rw [if_neg (fun h : addOK z g k v => b2i_e0 c_22 h.2.2)]⟩)
  · refine E_aload_n dX9_add_9 rfl ?_
    refine E_iload_n dX9_add_10 rfl ?_
    refine E_V1 dX9_add_11 cv_X9_53 (by decide) (hg_6 _) rfl rfl (Nat.le_of_ble_eq_true rfl) (Nat.le_of_ble_eq_true rfl) (c_kindOf z hs g) (by decide) (Nat.zero_le _) (Nat.zero_le _) ?_
    refine E_if_ne 25 dX9_add_14 (by decide) (fun c_14 => ?_) (fun c_14 => ?_)
    · refine E_iconst (v := (-1)) dX9_add_25 rfl ?_
      exact E_iret dX9_add_26 rfl rfl (by first | exact ⟨sv_el (fun h => by have := h.1; rw [i32_le] at c_6; simp only [Int32.reduceToInt] at c_6; omega), by rw [if_neg (fun h : addOK z g k v => by have := h.1; rw [i32_le] at c_6; simp only [Int32.reduceToInt] at c_6; omega)]⟩ | exact ⟨sv_el (fun h => c_14 h.2.1), by rw [if_neg (fun h : addOK z g k v => c_14 h.2.1)]⟩ | exact ⟨sv_el (fun h => b2i_e0 c_22 h.2.2), by rw [if_neg (fun h : addOK z g k v => b2i_e0 c_22 h.2.2)]⟩)
    · refine E_iload_n dX9_add_17 rfl ?_
      refine E_iload_n dX9_add_18 rfl ?_
      refine E_S2 dX9_add_19 cs_X9_57 (Nat.le_of_ble_eq_true rfl) (Nat.le_of_ble_eq_true rfl) (c_takes (hp z) k v) (by decide) (Nat.zero_le _) (Nat.zero_le _) ?_
      refine E_if_ne 27 dX9_add_22 (by decide) (fun c_22 => ?_) (fun c_22 => ?_)
      · have hlt : (z.F 6 10).toInt < 60 := by rw [i32_le] at c_6; simp only [Int32.reduceToInt] at c_6; omega
        have hin : vp_in (z.F 6 10) 60 := vp_in_iff.mpr ⟨h0, by omega⟩
        have hok : addOK z g k v := ⟨hlt, c_14, b2i_ne c_22⟩
        refine E_aload_n dX9_add_27 rfl ?_
        refine E_getf 0 dX9_add_28 fl_X9_11 (by decide) (hg_6 _) rfl ?_
        refine E_aload_n dX9_add_31 rfl ?_
        refine E_getf 10 dX9_add_32 fl_X9_49 (by decide) (hg_6 _) rfl ?_
        refine E_iload_n dX9_add_35 rfl ?_
        refine E_iast dX9_add_36 (by decide) (hg_7 _) (hin) ?_
        rw [hs_7]
        refine E_aload_n dX9_add_37 rfl ?_
        refine E_getf 1 dX9_add_38 fl_X9_15 (by decide) (hg_6 _) rfl ?_
        refine E_aload_n dX9_add_41 rfl ?_
        refine E_getf 10 (v := .int (z.F 6 10)) dX9_add_42 fl_X9_49 (by decide) (hg_6 _) rfl ?_
        refine E_iload_n dX9_add_45 rfl ?_
        refine E_S1 dX9_add_46 cs_X9_61 (Nat.le_of_ble_eq_true rfl) (Nat.le_of_ble_eq_true rfl) (c_hasValue _ k) (by decide) (Nat.zero_le _) (Nat.zero_le _) ?_
        refine E_if_eq 56 dX9_add_49 (by decide) (fun c_49 => ?_) (fun c_49 => ?_)
        · refine E_iconst (v := (-1)) dX9_add_56 rfl ?_
          refine E_iast (f := z.A 8) dX9_add_57 (by decide) (hg_8 _) (hin) ?_
          rw [hs_8]
          refine E_aload_n dX9_add_58 rfl ?_
          refine E_getf 2 dX9_add_59 fl_X9_18 (by decide) (hg_6 _) rfl ?_
          refine E_aload_n dX9_add_62 rfl ?_
          refine E_getf 10 (v := .int (z.F 6 10)) dX9_add_63 fl_X9_49 (by decide) (hg_6 _) rfl ?_
          refine E_iload_n dX9_add_66 rfl ?_
          refine E_iast (f := z.A 9) dX9_add_67 (by decide) (hg_9 _) (hin) ?_
          rw [hs_9]
          refine E_aload_n dX9_add_68 rfl ?_
          refine E_dup dX9_add_69 rfl ?_
          refine E_getf 10 (v := .int (z.F 6 10)) dX9_add_70 fl_X9_49 (by decide) (hg_6 _) rfl ?_
          refine E_iconst (v := 1) dX9_add_73 rfl ?_
          refine E_iadd dX9_add_74 ?_
          refine E_put 10 dX9_add_75 fp_X9_49 (fitsV_int _) (by decide) (hg_6 _) (Nat.le_of_ble_eq_true rfl) ?_
          rw [hs_6_10]
          refine E_aload_n dX9_add_78 rfl ?_
          refine E_getf 10 (v := .int (z.F 6 10 + 1)) dX9_add_79 fl_X9_49 (by decide) (hg_6 _) rfl ?_
          refine E_iconst (v := 1) dX9_add_82 rfl ?_
          refine E_isub dX9_add_83 ?_
          exact E_iret dX9_add_84 rfl rfl (by first | exact ⟨by rw [if_pos hok, i32_ac], by rw [if_pos hok, zadd, if_pos (b2i_ne c_49)]⟩ | exact ⟨by rw [if_pos hok, i32_ac], by rw [if_pos hok, zadd, if_neg (b2i_e0 c_49)]⟩)
        · refine E_iload_n dX9_add_52 rfl ?_
          refine E_goto 57 dX9_add_53 (by decide) ?_
          refine E_iast (f := z.A 8) dX9_add_57 (by decide) (hg_8 _) (hin) ?_
          rw [hs_8]
          refine E_aload_n dX9_add_58 rfl ?_
          refine E_getf 2 dX9_add_59 fl_X9_18 (by decide) (hg_6 _) rfl ?_
          refine E_aload_n dX9_add_62 rfl ?_
          refine E_getf 10 (v := .int (z.F 6 10)) dX9_add_63 fl_X9_49 (by decide) (hg_6 _) rfl ?_
          refine E_iload_n dX9_add_66 rfl ?_
          refine E_iast (f := z.A 9) dX9_add_67 (by decide) (hg_9 _) (hin) ?_
          rw [hs_9]
          refine E_aload_n dX9_add_68 rfl ?_
          refine E_dup dX9_add_69 rfl ?_
          refine E_getf 10 (v := .int (z.F 6 10)) dX9_add_70 fl_X9_49 (by decide) (hg_6 _) rfl ?_
          refine E_iconst (v := 1) dX9_add_73 rfl ?_
          refine E_iadd dX9_add_74 ?_
          refine E_put 10 dX9_add_75 fp_X9_49 (fitsV_int _) (by decide) (hg_6 _) (Nat.le_of_ble_eq_true rfl) ?_
          rw [hs_6_10]
          refine E_aload_n dX9_add_78 rfl ?_
          refine E_getf 10 (v := .int (z.F 6 10 + 1)) dX9_add_79 fl_X9_49 (by decide) (hg_6 _) rfl ?_
          refine E_iconst (v := 1) dX9_add_82 rfl ?_
          refine E_isub dX9_add_83 ?_
          exact E_iret dX9_add_84 rfl rfl (by first | exact ⟨by rw [if_pos hok, i32_ac], by rw [if_pos hok, zadd, if_pos (b2i_ne c_49)]⟩ | exact ⟨by rw [if_pos hok, i32_ac], by rw [if_pos hok, zadd, if_neg (b2i_e0 c_49)]⟩)
      · refine E_iconst (v := (-1)) dX9_add_25 rfl ?_
        exact E_iret dX9_add_26 rfl rfl (by first | exact ⟨sv_el (fun h => by have := h.1; rw [i32_le] at c_6; simp only [Int32.reduceToInt] at c_6; omega), by rw [if_neg (fun h : addOK z g k v => by have := h.1; rw [i32_le] at c_6; simp only [Int32.reduceToInt] at c_6; omega)]⟩ | exact ⟨sv_el (fun h => c_14 h.2.1), by rw [if_neg (fun h : addOK z g k v => c_14 h.2.1)]⟩ | exact ⟨sv_el (fun h => b2i_e0 c_22 h.2.2), by rw [if_neg (fun h : addOK z g k v => b2i_e0 c_22 h.2.2)]⟩)
abbrev jnOK (z : Sg) (o t : Int32) : Prop := z.A 7 o.toNatClampNeg = 1 ∧ z.A 7 t.toNatClampNeg = 1 ∧ isL (z.A 8 o.toNatClampNeg) ∧ isL (z.A 8 t.toNatClampNeg)
def jnF (f : Nat → Int32) (a b : Int32) : Nat → Int32 := upd f a.toNatClampNeg (f a.toNatClampNeg ||| (1 <<< (b &&& 31)))
def jn (z : Sg) (o t : Int32) : Sg := if jnOK z o t then
    stA (stA z 16 (jnF (z.A 16) (z.A 8 o.toNatClampNeg - 97) (z.A 8 t.toNatClampNeg - 97))) 16 (jnF (jnF (z.A 16) (z.A 8 o.toNatClampNeg - 97) (z.A 8 t.toNatClampNeg - 97)) (z.A 8 t.toNatClampNeg - 97) (z.A 8 o.toNatClampNeg - 97))
  else z
theorem c_join (z : Sg) (o t : Int32) (ho : vp_in o 60) (ht : vp_in t 60) : EM mTray_join 1 0 0 [.ref 6, .int o, .int t] (hp z) (Det none (hp (jn z o t))) := by
  refine E_aload_n dX9_join_0 rfl ?_
  refine E_getf 0 dX9_join_1 fl_X9_11 (by decide) (hg_6 _) rfl ?_
  refine E_iload_n dX9_join_4 rfl ?_
  refine E_iald dX9_join_5 (by decide) (hg_7 _) (ho) ?_
  refine E_iconst (v := 1) dX9_join_6 rfl ?_
  refine E_icmp_ne 91 dX9_join_7 (by decide) (fun c_7 => ?_) (fun c_7 => ?_)
  · exact E_vret dX9_join_91 rfl (by first | exact ⟨rfl, by rw [jn, if_neg (fun h => c_7 h.1)]⟩ | exact ⟨rfl, by rw [jn, if_neg (fun h => c_17 h.2.1)]⟩ | exact ⟨rfl, by rw [jn, if_neg (fun h => b2i_e0 c_29 h.2.2.1)]⟩ | exact ⟨rfl, by rw [jn, if_neg (fun h => b2i_e0 c_41 h.2.2.2)]⟩ | exact ⟨rfl, by rw [jn, if_pos ⟨c_7, c_17, b2i_ne c_29, b2i_ne c_41⟩]; rfl⟩)
  · refine E_aload_n dX9_join_10 rfl ?_
    refine E_getf 0 dX9_join_11 fl_X9_11 (by decide) (hg_6 _) rfl ?_
    refine E_iload_n dX9_join_14 rfl ?_
    refine E_iald dX9_join_15 (by decide) (hg_7 _) (ht) ?_
    refine E_iconst (v := 1) dX9_join_16 rfl ?_
    refine E_icmp_ne 91 dX9_join_17 (by decide) (fun c_17 => ?_) (fun c_17 => ?_)
    · exact E_vret dX9_join_91 rfl (by first | exact ⟨rfl, by rw [jn, if_neg (fun h => c_7 h.1)]⟩ | exact ⟨rfl, by rw [jn, if_neg (fun h => c_17 h.2.1)]⟩ | exact ⟨rfl, by rw [jn, if_neg (fun h => b2i_e0 c_29 h.2.2.1)]⟩ | exact ⟨rfl, by rw [jn, if_neg (fun h => b2i_e0 c_41 h.2.2.2)]⟩ | exact ⟨rfl, by rw [jn, if_pos ⟨c_7, c_17, b2i_ne c_29, b2i_ne c_41⟩]; rfl⟩)
    · refine E_aload_n dX9_join_20 rfl ?_
      refine E_getf 1 dX9_join_21 fl_X9_15 (by decide) (hg_6 _) rfl ?_
      refine E_iload_n dX9_join_24 rfl ?_
      refine E_iald dX9_join_25 (by decide) (hg_8 _) (ho) ?_
      refine E_S1 dX9_join_26 cs_X9_65 (Nat.le_of_ble_eq_true rfl) (Nat.le_of_ble_eq_true rfl) (c_isLetter _ _) (by decide) (Nat.zero_le _) (Nat.zero_le _) ?_
      refine E_if_eq 91 dX9_join_29 (by decide) (fun c_29 => ?_) (fun c_29 => ?_)
      · exact E_vret dX9_join_91 rfl (by first | exact ⟨rfl, by rw [jn, if_neg (fun h => c_7 h.1)]⟩ | exact ⟨rfl, by rw [jn, if_neg (fun h => c_17 h.2.1)]⟩ | exact ⟨rfl, by rw [jn, if_neg (fun h => b2i_e0 c_29 h.2.2.1)]⟩ | exact ⟨rfl, by rw [jn, if_neg (fun h => b2i_e0 c_41 h.2.2.2)]⟩ | exact ⟨rfl, by rw [jn, if_pos ⟨c_7, c_17, b2i_ne c_29, b2i_ne c_41⟩]; rfl⟩)
      · refine E_aload_n dX9_join_32 rfl ?_
        refine E_getf 1 dX9_join_33 fl_X9_15 (by decide) (hg_6 _) rfl ?_
        refine E_iload_n dX9_join_36 rfl ?_
        refine E_iald dX9_join_37 (by decide) (hg_8 _) (ht) ?_
        refine E_S1 dX9_join_38 cs_X9_65 (Nat.le_of_ble_eq_true rfl) (Nat.le_of_ble_eq_true rfl) (c_isLetter _ _) (by decide) (Nat.zero_le _) (Nat.zero_le _) ?_
        refine E_if_eq 91 dX9_join_41 (by decide) (fun c_41 => ?_) (fun c_41 => ?_)
        · exact E_vret dX9_join_91 rfl (by first | exact ⟨rfl, by rw [jn, if_neg (fun h => c_7 h.1)]⟩ | exact ⟨rfl, by rw [jn, if_neg (fun h => c_17 h.2.1)]⟩ | exact ⟨rfl, by rw [jn, if_neg (fun h => b2i_e0 c_29 h.2.2.1)]⟩ | exact ⟨rfl, by rw [jn, if_neg (fun h => b2i_e0 c_41 h.2.2.2)]⟩ | exact ⟨rfl, by rw [jn, if_pos ⟨c_7, c_17, b2i_ne c_29, b2i_ne c_41⟩]; rfl⟩)
        · refine E_aload_n dX9_join_44 rfl ?_
          refine E_getf 1 dX9_join_45 fl_X9_15 (by decide) (hg_6 _) rfl ?_
          refine E_iload_n dX9_join_48 rfl ?_
          refine E_iald dX9_join_49 (by decide) (hg_8 _) (ho) ?_
          refine E_bipush (v := 97) dX9_join_50 rfl ?_
          refine E_isub dX9_join_52 ?_
          refine E_istore_n dX9_join_53 (by decide) rfl ?_
          refine E_aload_n dX9_join_54 rfl ?_
          refine E_getf 1 dX9_join_55 fl_X9_15 (by decide) (hg_6 _) rfl ?_
          refine E_iload_n dX9_join_58 rfl ?_
          refine E_iald dX9_join_59 (by decide) (hg_8 _) (ht) ?_
          refine E_bipush (v := 97) dX9_join_60 rfl ?_
          refine E_isub dX9_join_62 ?_
          refine E_istore dX9_join_63 (by decide) rfl ?_
          refine E_aload_n dX9_join_65 rfl ?_
          refine E_getf 9 dX9_join_66 fl_X9_40 (by decide) (hg_6 _) rfl ?_
          refine E_iload_n dX9_join_69 rfl ?_
          refine E_dup2 dX9_join_70 rfl rfl ?_
          refine E_iald dX9_join_71 (by decide) (hg_16 _) (letter_in (b2i_ne c_29)) ?_
          refine E_iconst (v := 1) dX9_join_72 rfl ?_
          refine E_iload dX9_join_73 rfl ?_
          refine E_ishl dX9_join_75 ?_
          refine E_ior dX9_join_76 ?_
          refine E_iast dX9_join_77 (by decide) (hg_16 _) (letter_in (b2i_ne c_29)) ?_
          rw [hs_16]
          refine E_aload_n dX9_join_78 rfl ?_
          refine E_getf 9 dX9_join_79 fl_X9_40 (by decide) (hg_6 _) rfl ?_
          refine E_iload dX9_join_82 rfl ?_
          refine E_dup2 dX9_join_84 rfl rfl ?_
          refine E_iald dX9_join_85 (by decide) (hg_16 _) (letter_in (b2i_ne c_41)) ?_
          refine E_iconst (v := 1) dX9_join_86 rfl ?_
          refine E_iload_n dX9_join_87 rfl ?_
          refine E_ishl dX9_join_88 ?_
          refine E_ior dX9_join_89 ?_
          refine E_iast dX9_join_90 (by decide) (hg_16 _) (letter_in (b2i_ne c_41)) ?_
          rw [hs_16]
          exact E_vret dX9_join_91 rfl (by first | exact ⟨rfl, by rw [jn, if_neg (fun h => c_7 h.1)]⟩ | exact ⟨rfl, by rw [jn, if_neg (fun h => c_17 h.2.1)]⟩ | exact ⟨rfl, by rw [jn, if_neg (fun h => b2i_e0 c_29 h.2.2.1)]⟩ | exact ⟨rfl, by rw [jn, if_neg (fun h => b2i_e0 c_41 h.2.2.2)]⟩ | exact ⟨rfl, by rw [jn, if_pos ⟨c_7, c_17, b2i_ne c_29, b2i_ne c_41⟩]; rfl⟩)
end
section
/-! THE TRAY, on -/
def sb1 (z : Sg) (nd g : Int32) : Sg :=
  stA (stA (stA z 11 (upd (z.A 11) g.toNatClampNeg (z.A 11 g.toNatClampNeg + 1))) 10 (upd (z.A 10) nd.toNatClampNeg (upd (z.A 11) g.toNatClampNeg (z.A 11 g.toNatClampNeg + 1) g.toNatClampNeg))) 13 (upd (z.A 13) g.toNatClampNeg nd)
def sb (z : Sg) (nd g : Int32) : Sg :=
  if ltN (z.A 13 g.toNatClampNeg) (z.F 6 10) then jn (stA (sb1 z nd g) 14 (upd (z.A 14) (z.A 13 g.toNatClampNeg).toNatClampNeg nd)) (z.A 13 g.toNatClampNeg) nd
  else stA (sb1 z nd g) 12 (upd (z.A 12) g.toNatClampNeg nd)
theorem c_standBehind (z : Sg) (hs : (z.F 6 10).toInt ≤ 60) (nd g : Int32) (hn : vp_in nd 60) (hg : vp_in g 60) : EM mTray_standBehind 2 0 0 [.ref 6, .int nd, .int g] (hp z) (Det none (hp (sb z nd g))) := by
  refine E_aload_n dX9_standBehind_0 rfl ?_
  refine E_getf 6 dX9_standBehind_1 fl_X9_30 (by decide) (hg_6 _) rfl ?_
  refine E_iload_n dX9_standBehind_4 rfl ?_
  refine E_iald dX9_standBehind_5 (by decide) (hg_13 _) (hg) ?_
  refine E_istore_n dX9_standBehind_6 (by decide) rfl ?_
  refine E_aload_n dX9_standBehind_7 rfl ?_
  refine E_getf 4 dX9_standBehind_8 fl_X9_24 (by decide) (hg_6 _) rfl ?_
  refine E_iload_n dX9_standBehind_11 rfl ?_
  refine E_dup2 dX9_standBehind_12 rfl rfl ?_
  refine E_iald dX9_standBehind_13 (by decide) (hg_11 _) (hg) ?_
  refine E_iconst (v := 1) dX9_standBehind_14 rfl ?_
  refine E_iadd dX9_standBehind_15 ?_
  refine E_iast dX9_standBehind_16 (by decide) (hg_11 _) (hg) ?_
  rw [hs_11]
  refine E_aload_n dX9_standBehind_17 rfl ?_
  refine E_getf 3 dX9_standBehind_18 fl_X9_21 (by decide) (hg_6 _) rfl ?_
  refine E_iload_n dX9_standBehind_21 rfl ?_
  refine E_aload_n dX9_standBehind_22 rfl ?_
  refine E_getf 4 dX9_standBehind_23 fl_X9_24 (by decide) (hg_6 _) rfl ?_
  refine E_iload_n dX9_standBehind_26 rfl ?_
  refine E_iald (f := upd (z.A 11) g.toNatClampNeg (z.A 11 g.toNatClampNeg + 1)) dX9_standBehind_27 (by decide) (hg_11 _) (hg) ?_
  refine E_iast (f := z.A 10) dX9_standBehind_28 (by decide) (hg_10 _) (hn) ?_
  rw [hs_10]
  refine E_aload_n dX9_standBehind_29 rfl ?_
  refine E_getf 6 dX9_standBehind_30 fl_X9_30 (by decide) (hg_6 _) rfl ?_
  refine E_iload_n dX9_standBehind_33 rfl ?_
  refine E_iload_n dX9_standBehind_34 rfl ?_
  refine E_iast (f := z.A 13) dX9_standBehind_35 (by decide) (hg_13 _) (hg) ?_
  rw [hs_13]
  refine E_aload_n dX9_standBehind_36 rfl ?_
  refine E_iload_n dX9_standBehind_37 rfl ?_
  refine E_V1 (r := some (.int (b2i (ltN (z.A 13 g.toNatClampNeg) (z.F 6 10))))) dX9_standBehind_38 cv_X9_81 (by decide) (hg_6 _) rfl rfl (Nat.le_of_ble_eq_true rfl) (Nat.le_of_ble_eq_true rfl) (c_has _ _) (by decide) (Nat.zero_le _) (Nat.zero_le _) ?_
  refine E_if_eq 60 dX9_standBehind_41 (by decide) (fun c_41 => ?_) (fun c_41 => ?_)
  · refine E_aload_n dX9_standBehind_60 rfl ?_
    refine E_getf 5 dX9_standBehind_61 fl_X9_27 (by decide) (hg_6 _) rfl ?_
    refine E_iload_n dX9_standBehind_64 rfl ?_
    refine E_iload_n dX9_standBehind_65 rfl ?_
    refine E_iast (f := z.A 12) dX9_standBehind_66 (by decide) (hg_12 _) (hg) ?_
    rw [hs_12]
    exact E_vret dX9_standBehind_67 rfl (by first | exact ⟨rfl, by rw [sb, if_pos (b2i_ne c_41)]; rfl⟩ | exact ⟨rfl, by rw [sb, if_neg (b2i_e0 c_41)]; rfl⟩)
  · refine E_aload_n dX9_standBehind_44 rfl ?_
    refine E_getf 7 dX9_standBehind_45 fl_X9_33 (by decide) (hg_6 _) rfl ?_
    refine E_iload_n dX9_standBehind_48 rfl ?_
    refine E_iload_n dX9_standBehind_49 rfl ?_
    refine E_iast (f := z.A 14) dX9_standBehind_50 (by decide) (hg_14 _) (tg_in (b2i_ne c_41) hs) ?_
    rw [hs_14]
    refine E_aload_n dX9_standBehind_51 rfl ?_
    refine E_iload_n dX9_standBehind_52 rfl ?_
    refine E_iload_n dX9_standBehind_53 rfl ?_
    refine E_V2 dX9_standBehind_54 cv_X9_88 (by decide) (hg_6 _) rfl rfl (Nat.le_of_ble_eq_true rfl) (Nat.le_of_ble_eq_true rfl) (c_join _ _ _ (tg_in (b2i_ne c_41) hs) hn) (by decide) (Nat.zero_le _) (Nat.zero_le _) ?_
    refine E_goto 67 dX9_standBehind_57 (by decide) ?_
    exact E_vret dX9_standBehind_67 rfl (by first | exact ⟨rfl, by rw [sb, if_pos (b2i_ne c_41)]; rfl⟩ | exact ⟨rfl, by rw [sb, if_neg (b2i_e0 c_41)]; rfl⟩)
theorem c_areNeighbours (z : Sg) (x v : Int32) : EM mTray_areNeighbours 1 0 0 [.ref 6, .int x, .int v] (hp z) (Det (some (.int (b2i (isL x ∧ isL v ∧ ((z.A 16 (x - 97).toNatClampNeg >>> ((v - 97) &&& 31)) &&& 1) = 1)))) (hp z)) := by
  refine E_iload_n dX9_areNeighbours_0 rfl ?_
  refine E_S1 dX9_areNeighbours_1 cs_X9_65 (Nat.le_of_ble_eq_true rfl) (Nat.le_of_ble_eq_true rfl) (c_isLetter _ _) (by decide) (Nat.zero_le _) (Nat.zero_le _) ?_
  refine E_if_eq 38 dX9_areNeighbours_4 (by decide) (fun c_4 => ?_) (fun c_4 => ?_)
  · refine E_iconst (v := 0) dX9_areNeighbours_38 rfl ?_
    exact E_iret dX9_areNeighbours_39 rfl rfl (by first | exact ⟨si_f (fun h => b2i_e0 c_4 h.1), rfl⟩ | exact ⟨si_f (fun h => b2i_e0 c_11 h.2.1), rfl⟩ | exact ⟨si_f (fun h => c_31 h.2.2), rfl⟩ | exact ⟨si_t ⟨b2i_ne c_4, b2i_ne c_11, c_31⟩, rfl⟩)
  · refine E_iload_n dX9_areNeighbours_7 rfl ?_
    refine E_S1 dX9_areNeighbours_8 cs_X9_65 (Nat.le_of_ble_eq_true rfl) (Nat.le_of_ble_eq_true rfl) (c_isLetter _ _) (by decide) (Nat.zero_le _) (Nat.zero_le _) ?_
    refine E_if_eq 38 dX9_areNeighbours_11 (by decide) (fun c_11 => ?_) (fun c_11 => ?_)
    · refine E_iconst (v := 0) dX9_areNeighbours_38 rfl ?_
      exact E_iret dX9_areNeighbours_39 rfl rfl (by first | exact ⟨si_f (fun h => b2i_e0 c_4 h.1), rfl⟩ | exact ⟨si_f (fun h => b2i_e0 c_11 h.2.1), rfl⟩ | exact ⟨si_f (fun h => c_31 h.2.2), rfl⟩ | exact ⟨si_t ⟨b2i_ne c_4, b2i_ne c_11, c_31⟩, rfl⟩)
    · refine E_aload_n dX9_areNeighbours_14 rfl ?_
      refine E_getf 9 dX9_areNeighbours_15 fl_X9_40 (by decide) (hg_6 _) rfl ?_
      refine E_iload_n dX9_areNeighbours_18 rfl ?_
      refine E_bipush (v := 97) dX9_areNeighbours_19 rfl ?_
      refine E_isub dX9_areNeighbours_21 ?_
      refine E_iald dX9_areNeighbours_22 (by decide) (hg_16 _) (letter_in (b2i_ne c_4)) ?_
      refine E_iload_n dX9_areNeighbours_23 rfl ?_
      refine E_bipush (v := 97) dX9_areNeighbours_24 rfl ?_
      refine E_isub dX9_areNeighbours_26 ?_
      refine E_ishr dX9_areNeighbours_27 ?_
      refine E_iconst (v := 1) dX9_areNeighbours_28 rfl ?_
      refine E_iand dX9_areNeighbours_29 ?_
      refine E_iconst (v := 1) dX9_areNeighbours_30 rfl ?_
      refine E_icmp_ne 38 dX9_areNeighbours_31 (by decide) (fun c_31 => ?_) (fun c_31 => ?_)
      · refine E_iconst (v := 0) dX9_areNeighbours_38 rfl ?_
        exact E_iret dX9_areNeighbours_39 rfl rfl (by first | exact ⟨si_f (fun h => b2i_e0 c_4 h.1), rfl⟩ | exact ⟨si_f (fun h => b2i_e0 c_11 h.2.1), rfl⟩ | exact ⟨si_f (fun h => c_31 h.2.2), rfl⟩ | exact ⟨si_t ⟨b2i_ne c_4, b2i_ne c_11, c_31⟩, rfl⟩)
      · refine E_iconst (v := 1) dX9_areNeighbours_34 rfl ?_
        refine E_goto 39 dX9_areNeighbours_35 (by decide) ?_
        exact E_iret dX9_areNeighbours_39 rfl rfl (by first | exact ⟨si_f (fun h => b2i_e0 c_4 h.1), rfl⟩ | exact ⟨si_f (fun h => b2i_e0 c_11 h.2.1), rfl⟩ | exact ⟨si_f (fun h => c_31 h.2.2), rfl⟩ | exact ⟨si_t ⟨b2i_ne c_4, b2i_ne c_11, c_31⟩, rfl⟩)
end
section
/-! WHICH NODES ARE LIGHTED -/
theorem vnb1 : vp_nar .boolean 1 = 1 := rfl
theorem vnb0 : vp_nar .boolean 0 = 0 := rfl
def li1 : Nat → Nat → Sg → Sg
  | 0, _, z => z
  | m + 1, i, z => li1 m (i + 1) (stA z 15 (upd (z.A 15) i (b2i (¬ z.A 7 i = 0))))
abbrev liC (z : Sg) (i : Nat) : Prop := ¬ z.A 15 i = 0 ∧ ltN (z.A 9 i) (z.F 6 10)
def li2 : Nat → Sg → Sg
  | 0, z => z
  | i + 1, z => li2 i (if liC z (i + 1) then stA z 15 (upd (z.A 15) (z.A 9 (i + 1)).toNatClampNeg 1) else z)
theorem l_li2 {n : Nat} (hn : n ≤ 60) : ∀ (i : Nat) (z : Sg), i < n → z.F 6 10 = nI n → E mTray_findLighted 1 0 0 43 [(0, .ref 6), (1, .int (nI i))] [] (hp z) (Det none (hp (li2 i z))) := by
  intro i
  induction i with
  | zero =>
    intro z hi hF
    refine E_iload_n dX9_findLighted_43 rfl ?_
    refine E_if_le 87 dX9_findLighted_44 (by decide) (fun c_44 => ?_) (fun c_44 => ?_)
    · exact E_vret dX9_findLighted_87 rfl ⟨rfl, rfl⟩
    · exact absurd (by decide) c_44
  | succ i ih =>
    intro z hi hF
    have hs : (z.F 6 10).toInt ≤ 60 := by rw [hF, nI_toInt (by omega)]; omega
    have hcl : (nI (i + 1)).toNatClampNeg = i + 1 := nI_clamp (by omega)
    refine E_iload_n dX9_findLighted_43 rfl ?_
    refine E_if_le 87 dX9_findLighted_44 (by decide) (fun c_44 => ?_) (fun c_44 => ?_)
    · exact absurd c_44 (nI_nle (by omega) (by omega))
    · refine E_aload_n dX9_findLighted_47 rfl ?_
      refine E_getf 8 dX9_findLighted_48 fl_X9_36 (by decide) (hg_6 _) rfl ?_
      refine E_iload_n dX9_findLighted_51 rfl ?_
      refine E_zald dX9_findLighted_52 (by decide) (hg_15 _) (vp_in_nI (by omega) (by omega)) ?_
      rw [hcl]
      refine E_if_eq 81 dX9_findLighted_53 (by decide) (fun c_53 => ?_) (fun c_53 => ?_)
      · refine E_iincL (-1) dX9_findLighted_81 rfl rfl (by decide) rfl ?_
        rw [pk_m1]
        refine E_goto 43 dX9_findLighted_84 (by decide) ?_
        refine E.pick [1, 0] rfl ?_
        rw [li2]
        first | rw [if_neg (show ¬ liC z (i + 1) from fun h => h.1 c_53)] | rw [if_neg (show ¬ liC z (i + 1) from fun h => b2i_e0 c_66 h.2)] | rw [if_pos (show liC z (i + 1) from ⟨c_53, b2i_ne c_66⟩)]
        exact ih _ (by omega) hF
      · refine E_aload_n dX9_findLighted_56 rfl ?_
        refine E_aload_n dX9_findLighted_57 rfl ?_
        refine E_getf 2 dX9_findLighted_58 fl_X9_18 (by decide) (hg_6 _) rfl ?_
        refine E_iload_n dX9_findLighted_61 rfl ?_
        refine E_iald dX9_findLighted_62 (by decide) (hg_9 _) (vp_in_nI (by omega) (by omega)) ?_
        rw [hcl]
        refine E_V1 dX9_findLighted_63 cv_X9_81 (by decide) (hg_6 _) rfl rfl (Nat.le_of_ble_eq_true rfl) (Nat.le_of_ble_eq_true rfl) (c_has _ _) (by decide) (Nat.zero_le _) (Nat.zero_le _) ?_
        refine E_if_eq 81 dX9_findLighted_66 (by decide) (fun c_66 => ?_) (fun c_66 => ?_)
        · refine E_iincL (-1) dX9_findLighted_81 rfl rfl (by decide) rfl ?_
          rw [pk_m1]
          refine E_goto 43 dX9_findLighted_84 (by decide) ?_
          refine E.pick [1, 0] rfl ?_
          rw [li2]
          first | rw [if_neg (show ¬ liC z (i + 1) from fun h => h.1 c_53)] | rw [if_neg (show ¬ liC z (i + 1) from fun h => b2i_e0 c_66 h.2)] | rw [if_pos (show liC z (i + 1) from ⟨c_53, b2i_ne c_66⟩)]
          exact ih _ (by omega) hF
        · refine E_aload_n dX9_findLighted_69 rfl ?_
          refine E_getf 8 dX9_findLighted_70 fl_X9_36 (by decide) (hg_6 _) rfl ?_
          refine E_aload_n dX9_findLighted_73 rfl ?_
          refine E_getf 2 dX9_findLighted_74 fl_X9_18 (by decide) (hg_6 _) rfl ?_
          refine E_iload_n dX9_findLighted_77 rfl ?_
          refine E_iald dX9_findLighted_78 (by decide) (hg_9 _) (vp_in_nI (by omega) (by omega)) ?_
          rw [hcl]
          refine E_iconst (v := 1) dX9_findLighted_79 rfl ?_
          refine E_zast dX9_findLighted_80 (by decide) (hg_15 _) (tg_in (b2i_ne c_66) hs) ?_
          rw [hs_15, vnb1]
          refine E_iincL (-1) dX9_findLighted_81 rfl rfl (by decide) rfl ?_
          rw [pk_m1]
          refine E_goto 43 dX9_findLighted_84 (by decide) ?_
          refine E.pick [1, 0] rfl ?_
          rw [li2]
          first | rw [if_neg (show ¬ liC z (i + 1) from fun h => h.1 c_53)] | rw [if_neg (show ¬ liC z (i + 1) from fun h => b2i_e0 c_66 h.2)] | rw [if_pos (show liC z (i + 1) from ⟨c_53, b2i_ne c_66⟩)]
          exact ih _ (by omega) hF
theorem l_li1 {n : Nat} (h1 : 1 ≤ n) (hn : n ≤ 60) : ∀ (m i : Nat) (z : Sg), i + m = n → z.F 6 10 = nI n → E mTray_findLighted 1 0 0 2 [(0, .ref 6), (1, .int (nI i))] [] (hp z) (Det none (hp (li2 (n - 1) (li1 m i z)))) := by
  intro m
  induction m with
  | zero =>
    intro i z hi hF
    refine E_iload_n dX9_findLighted_2 rfl ?_
    refine E_aload_n dX9_findLighted_3 rfl ?_
    refine E_getf 10 dX9_findLighted_4 fl_X9_49 (by decide) (hg_6 _) rfl ?_
    rw [hF]
    refine E_icmp_ge 36 dX9_findLighted_7 (by decide) (fun c_7 => ?_) (fun c_7 => ?_)
    · refine E_aload_n dX9_findLighted_36 rfl ?_
      refine E_getf 10 dX9_findLighted_37 fl_X9_49 (by decide) (hg_6 _) rfl ?_
      refine E_iconst (v := 1) dX9_findLighted_40 rfl ?_
      rw [hF]
      refine E_isub dX9_findLighted_41 ?_
      rw [show nI n - 1 = nI (n - 1) from pk_sub (b := 1) h1]
      refine E_istore_n dX9_findLighted_42 (by decide) rfl ?_
      refine E.pick [1, 0] rfl ?_
      exact l_li2 hn (n - 1) z (by omega) hF
    · exact absurd (nI_le (by omega) (by omega)) c_7
  | succ m ih =>
    intro i z hi hF
    have hcl : (nI i).toNatClampNeg = i := nI_clamp (by omega)
    refine E_iload_n dX9_findLighted_2 rfl ?_
    refine E_aload_n dX9_findLighted_3 rfl ?_
    refine E_getf 10 dX9_findLighted_4 fl_X9_49 (by decide) (hg_6 _) rfl ?_
    rw [hF]
    refine E_icmp_ge 36 dX9_findLighted_7 (by decide) (fun c_7 => ?_) (fun c_7 => ?_)
    · exact absurd c_7 (nI_ge (by omega) (by omega))
    · refine E_aload_n dX9_findLighted_10 rfl ?_
      refine E_getf 8 dX9_findLighted_11 fl_X9_36 (by decide) (hg_6 _) rfl ?_
      refine E_iload_n dX9_findLighted_14 rfl ?_
      refine E_aload_n dX9_findLighted_15 rfl ?_
      refine E_getf 0 dX9_findLighted_16 fl_X9_11 (by decide) (hg_6 _) rfl ?_
      refine E_iload_n dX9_findLighted_19 rfl ?_
      refine E_iald dX9_findLighted_20 (by decide) (hg_7 _) (vp_in_nI (by omega) (by omega)) ?_
      rw [hcl]
      refine E_if_eq 28 dX9_findLighted_21 (by decide) (fun c_21 => ?_) (fun c_21 => ?_)
      · refine E_iconst (v := 0) dX9_findLighted_28 rfl ?_
        refine E_zast dX9_findLighted_29 (by decide) (hg_15 _) (vp_in_nI (by omega) (by omega)) ?_
        rw [hs_15, vnb0]
        rw [hcl]
        refine E_iincL 1 dX9_findLighted_30 rfl rfl (by decide) rfl ?_
        rw [nI_1]
        refine E_goto 2 dX9_findLighted_33 (by decide) ?_
        refine E.pick [1, 0] rfl ?_
        rw [li1]
        first | rw [b2i_f (p := ¬ z.A 7 i = 0) (fun h => h c_21)] | rw [b2i_t (p := ¬ z.A 7 i = 0) c_21]
        exact ih (i + 1) _ (by omega) hF
      · refine E_iconst (v := 1) dX9_findLighted_24 rfl ?_
        refine E_goto 29 dX9_findLighted_25 (by decide) ?_
        refine E_zast dX9_findLighted_29 (by decide) (hg_15 _) (vp_in_nI (by omega) (by omega)) ?_
        rw [hs_15, vnb1]
        rw [hcl]
        refine E_iincL 1 dX9_findLighted_30 rfl rfl (by decide) rfl ?_
        rw [nI_1]
        refine E_goto 2 dX9_findLighted_33 (by decide) ?_
        refine E.pick [1, 0] rfl ?_
        rw [li1]
        first | rw [b2i_f (p := ¬ z.A 7 i = 0) (fun h => h c_21)] | rw [b2i_t (p := ¬ z.A 7 i = 0) c_21]
        exact ih (i + 1) _ (by omega) hF
theorem c_findLighted {n : Nat} (h1 : 1 ≤ n) (hn : n ≤ 60) (z : Sg) (hF : z.F 6 10 = nI n) : EM mTray_findLighted 1 0 0 [.ref 6] (hp z) (Det none (hp (li2 (n - 1) (li1 n 0 z)))) := by
  refine E_iconst (v := 0) dX9_findLighted_0 rfl ?_
  refine E_istore_n dX9_findLighted_1 (by decide) rfl ?_
  refine E.pick [1, 0] rfl ?_
  exact l_li1 h1 hn n 0 z (by omega) hF
end
section
/-! LIGHTS: findLights, looks -/
def flz (n : Nat) (z : Sg) (a : Nat) (v : Int32) : Sg := stA z a (fun j => if j < n then v else z.A a j)
theorem c_fillz {n a : Nat} (ha : 3 ≤ a) (hn : n < 2 ^ 31) (hga : ∀ z : Sg, (hp z)[a]? = some (.inl (0, n, .inl (z.A a)))) (hsa : ∀ (z : Sg) (f : Nat → Int32), (hp z).set a (.inl (0, n, .inl f)) = hp (stA z a f)) (z : Sg) (v : Int32) :
    EM mArrays_fill 0 0 0 [.ref a, .int v] (hp z) (Det none (hp (flz n z a v))) := c_fill ha hn hga hsa z v
theorem F_flz (n : Nat) (z : Sg) (a : Nat) (v : Int32) : (flz n z a v).F = z.F := rfl
theorem F_jn (z : Sg) (o t : Int32) : (jn z o t).F = z.F := by
  unfold jn
  split <;> rfl
theorem F_sb (z : Sg) (nd g : Int32) : (sb z nd g).F = z.F := by
  unfold sb
  split
  · rw [F_jn]; rfl
  · rfl
theorem F_li1 : ∀ (m i : Nat) (z : Sg), (li1 m i z).F = z.F
  | 0, _, _ => rfl
  | m + 1, i, z => by rw [li1, F_li1]; rfl
theorem F_li2 : ∀ (i : Nat) (z : Sg), (li2 i z).F = z.F
  | 0, _ => rfl
  | i + 1, z => by
    rw [li2, F_li2]
    split <;> rfl
def zcl (z : Sg) : Sg := flz 26 (flz 60 (flz 60 (flz 60 (flz 60 (flz 60 z 11 0) 10 (-1)) 12 (-1)) 13 (-1)) 14 (-1)) 16 0
def li3 : Nat → Nat → Sg → Sg
  | 0, _, z => z
  | m + 1, i, z => li3 m (i + 1) (if liC z i then sb z (nI i) (z.A 9 i) else z)
def zfl (n : Nat) (z : Sg) : Sg := li3 (n - 1) 1 (zcl (li2 (n - 1) (li1 n 0 z)))
theorem l_li3 {n : Nat} (hn : n ≤ 60) : ∀ (m i : Nat) (z : Sg), i + m = n → z.F 6 10 = nI n → E mTray_findLights 3 0 0 54 [(0, .ref 6), (1, .int (nI i))] [] (hp z) (Det none (hp (li3 m i z))) := by
  intro m
  induction m with
  | zero =>
    intro i z hi hF
    refine E_iload_n dX9_findLights_54 rfl ?_
    refine E_aload_n dX9_findLights_55 rfl ?_
    refine E_getf 10 dX9_findLights_56 fl_X9_49 (by decide) (hg_6 _) rfl ?_
    rw [hF]
    refine E_icmp_ge 101 dX9_findLights_59 (by decide) (fun c_59 => ?_) (fun c_59 => ?_)
    · exact E_vret dX9_findLights_101 rfl ⟨rfl, rfl⟩
    · exact absurd (nI_le (by omega) (by omega)) c_59
  | succ m ih =>
    intro i z hi hF
    have hs : (z.F 6 10).toInt ≤ 60 := by rw [hF, nI_toInt (by omega)]; omega
    have hcl : (nI i).toNatClampNeg = i := nI_clamp (by omega)
    refine E_iload_n dX9_findLights_54 rfl ?_
    refine E_aload_n dX9_findLights_55 rfl ?_
    refine E_getf 10 dX9_findLights_56 fl_X9_49 (by decide) (hg_6 _) rfl ?_
    rw [hF]
    refine E_icmp_ge 101 dX9_findLights_59 (by decide) (fun c_59 => ?_) (fun c_59 => ?_)
    · exact absurd c_59 (nI_ge (by omega) (by omega))
    · refine E_aload_n dX9_findLights_62 rfl ?_
      refine E_getf 8 dX9_findLights_63 fl_X9_36 (by decide) (hg_6 _) rfl ?_
      refine E_iload_n dX9_findLights_66 rfl ?_
      refine E_zald dX9_findLights_67 (by decide) (hg_15 _) (vp_in_nI (by omega) (by omega)) ?_
      rw [hcl]
      refine E_if_eq 95 dX9_findLights_68 (by decide) (fun c_68 => ?_) (fun c_68 => ?_)
      · refine E_iincL 1 dX9_findLights_95 rfl rfl (by decide) rfl ?_
        rw [nI_1]
        refine E_goto 54 dX9_findLights_98 (by decide) ?_
        refine E.pick [1, 0] rfl ?_
        rw [li3]
        first | rw [if_neg (show ¬ liC z i from fun h => h.1 c_68)] | rw [if_neg (show ¬ liC z i from fun h => b2i_e0 c_81 h.2)] | rw [if_pos (show liC z i from ⟨c_68, b2i_ne c_81⟩)]
        first | exact ih (i + 1) _ (by omega) hF | exact ih (i + 1) _ (by omega) (by rw [F_sb]; exact hF)
      · refine E_aload_n dX9_findLights_71 rfl ?_
        refine E_aload_n dX9_findLights_72 rfl ?_
        refine E_getf 2 dX9_findLights_73 fl_X9_18 (by decide) (hg_6 _) rfl ?_
        refine E_iload_n dX9_findLights_76 rfl ?_
        refine E_iald dX9_findLights_77 (by decide) (hg_9 _) (vp_in_nI (by omega) (by omega)) ?_
        rw [hcl]
        refine E_V1 dX9_findLights_78 cv_X9_81 (by decide) (hg_6 _) rfl rfl (Nat.le_of_ble_eq_true rfl) (Nat.le_of_ble_eq_true rfl) (c_has _ _) (by decide) (Nat.zero_le _) (Nat.zero_le _) ?_
        refine E_if_eq 95 dX9_findLights_81 (by decide) (fun c_81 => ?_) (fun c_81 => ?_)
        · refine E_iincL 1 dX9_findLights_95 rfl rfl (by decide) rfl ?_
          rw [nI_1]
          refine E_goto 54 dX9_findLights_98 (by decide) ?_
          refine E.pick [1, 0] rfl ?_
          rw [li3]
          first | rw [if_neg (show ¬ liC z i from fun h => h.1 c_68)] | rw [if_neg (show ¬ liC z i from fun h => b2i_e0 c_81 h.2)] | rw [if_pos (show liC z i from ⟨c_68, b2i_ne c_81⟩)]
          first | exact ih (i + 1) _ (by omega) hF | exact ih (i + 1) _ (by omega) (by rw [F_sb]; exact hF)
        · refine E_aload_n dX9_findLights_84 rfl ?_
          refine E_iload_n dX9_findLights_85 rfl ?_
          refine E_aload_n dX9_findLights_86 rfl ?_
          refine E_getf 2 dX9_findLights_87 fl_X9_18 (by decide) (hg_6 _) rfl ?_
          refine E_iload_n dX9_findLights_90 rfl ?_
          refine E_iald dX9_findLights_91 (by decide) (hg_9 _) (vp_in_nI (by omega) (by omega)) ?_
          rw [hcl]
          refine E_V2 dX9_findLights_92 cv_X9_84 (by decide) (hg_6 _) rfl rfl (Nat.le_of_ble_eq_true rfl) (Nat.le_of_ble_eq_true rfl) (c_standBehind z hs _ _ (vp_in_nI (by omega) (by omega)) (tg_in (b2i_ne c_81) hs)) (by decide) (Nat.zero_le _) (Nat.zero_le _) ?_
          refine E_iincL 1 dX9_findLights_95 rfl rfl (by decide) rfl ?_
          rw [nI_1]
          refine E_goto 54 dX9_findLights_98 (by decide) ?_
          refine E.pick [1, 0] rfl ?_
          rw [li3]
          first | rw [if_neg (show ¬ liC z i from fun h => h.1 c_68)] | rw [if_neg (show ¬ liC z i from fun h => b2i_e0 c_81 h.2)] | rw [if_pos (show liC z i from ⟨c_68, b2i_ne c_81⟩)]
          first | exact ih (i + 1) _ (by omega) hF | exact ih (i + 1) _ (by omega) (by rw [F_sb]; exact hF)
theorem c_findLights {n : Nat} (h1 : 1 ≤ n) (hn : n ≤ 60) (z : Sg) (hF : z.F 6 10 = nI n) : EM mTray_findLights 3 0 0 [.ref 6] (hp z) (Det none (hp (zfl n z))) := by
  refine E_aload_n dX9_findLights_0 rfl ?_
  refine E_V0 dX9_findLights_1 cv_X9_72 (by decide) (hg_6 _) rfl rfl (Nat.le_of_ble_eq_true rfl) (Nat.le_of_ble_eq_true rfl) (c_findLighted h1 hn z hF) (by decide) (Nat.zero_le _) (Nat.zero_le _) ?_
  refine E_aload_n dX9_findLights_4 rfl ?_
  refine E_getf 4 dX9_findLights_5 fl_X9_24 (by decide) (hg_6 _) rfl ?_
  refine E_iconst (v := 0) dX9_findLights_8 rfl ?_
  refine E_S2 dX9_findLights_9 cs_X9_75 (Nat.le_of_ble_eq_true rfl) (Nat.le_of_ble_eq_true rfl) (c_fillz (by decide) (by decide) hg_11 hs_11 _ _) (by decide) (Nat.zero_le _) (Nat.zero_le _) ?_
  refine E_aload_n dX9_findLights_12 rfl ?_
  refine E_getf 3 dX9_findLights_13 fl_X9_21 (by decide) (hg_6 _) rfl ?_
  refine E_iconst (v := (-1)) dX9_findLights_16 rfl ?_
  refine E_S2 dX9_findLights_17 cs_X9_75 (Nat.le_of_ble_eq_true rfl) (Nat.le_of_ble_eq_true rfl) (c_fillz (by decide) (by decide) hg_10 hs_10 _ _) (by decide) (Nat.zero_le _) (Nat.zero_le _) ?_
  refine E_aload_n dX9_findLights_20 rfl ?_
  refine E_getf 5 dX9_findLights_21 fl_X9_27 (by decide) (hg_6 _) rfl ?_
  refine E_iconst (v := (-1)) dX9_findLights_24 rfl ?_
  refine E_S2 dX9_findLights_25 cs_X9_75 (Nat.le_of_ble_eq_true rfl) (Nat.le_of_ble_eq_true rfl) (c_fillz (by decide) (by decide) hg_12 hs_12 _ _) (by decide) (Nat.zero_le _) (Nat.zero_le _) ?_
  refine E_aload_n dX9_findLights_28 rfl ?_
  refine E_getf 6 dX9_findLights_29 fl_X9_30 (by decide) (hg_6 _) rfl ?_
  refine E_iconst (v := (-1)) dX9_findLights_32 rfl ?_
  refine E_S2 dX9_findLights_33 cs_X9_75 (Nat.le_of_ble_eq_true rfl) (Nat.le_of_ble_eq_true rfl) (c_fillz (by decide) (by decide) hg_13 hs_13 _ _) (by decide) (Nat.zero_le _) (Nat.zero_le _) ?_
  refine E_aload_n dX9_findLights_36 rfl ?_
  refine E_getf 7 dX9_findLights_37 fl_X9_33 (by decide) (hg_6 _) rfl ?_
  refine E_iconst (v := (-1)) dX9_findLights_40 rfl ?_
  refine E_S2 dX9_findLights_41 cs_X9_75 (Nat.le_of_ble_eq_true rfl) (Nat.le_of_ble_eq_true rfl) (c_fillz (by decide) (by decide) hg_14 hs_14 _ _) (by decide) (Nat.zero_le _) (Nat.zero_le _) ?_
  refine E_aload_n dX9_findLights_44 rfl ?_
  refine E_getf 9 dX9_findLights_45 fl_X9_40 (by decide) (hg_6 _) rfl ?_
  refine E_iconst (v := 0) dX9_findLights_48 rfl ?_
  refine E_S2 dX9_findLights_49 cs_X9_75 (Nat.le_of_ble_eq_true rfl) (Nat.le_of_ble_eq_true rfl) (c_fillz (by decide) (by decide) hg_16 hs_16 _ _) (by decide) (Nat.zero_le _) (Nat.zero_le _) ?_
  refine E_iconst (v := 1) dX9_findLights_52 rfl ?_
  refine E_istore_n dX9_findLights_53 (by decide) rfl ?_
  refine E.pick [1, 0] rfl ?_
  exact l_li3 hn (n - 1) 1 (zcl (li2 (n - 1) (li1 n 0 z))) (by omega) (by show (li2 (n - 1) (li1 n 0 z)).F 6 10 = nI n; rw [F_li2, F_li1]; exact hF)
def lo1 : Nat → Nat → Sg → Sg
  | 0, _, z => z
  | m + 1, i, z => lo1 m (i + 1) (stA (stA (stA z 44 (upd (z.A 44) i (b2i (¬ z.A 40 i = 0)))) 46 (upd (z.A 46) i 0)) 47 (upd (z.A 47) i (-1)))
abbrev loC (z : Sg) (i : Nat) : Prop := ¬ z.A 44 (z.A 42 i).toNatClampNeg = 0 ∨ ¬ z.A 44 i = 0
def lo2 : Nat → Sg → Sg
  | 0, z => z
  | i + 1, z => lo2 i (stA z 44 (upd (z.A 44) (z.A 42 (i + 1)).toNatClampNeg (b2i (loC z (i + 1)))))
def lk (z : Sg) (i : Nat) (g : Int32) : Sg :=
  stA (stA (stA z 45 (upd (z.A 45) (60 * g + z.A 46 g.toNatClampNeg).toNatClampNeg (nI i))) 46 (upd (z.A 46) g.toNatClampNeg (z.A 46 g.toNatClampNeg + 1))) 47 (upd (z.A 47) i (upd (z.A 46) g.toNatClampNeg (z.A 46 g.toNatClampNeg + 1) g.toNatClampNeg))
def lo3 : Nat → Nat → Sg → Sg
  | 0, _, z => z
  | m + 1, i, z => lo3 m (i + 1) (if ¬ z.A 44 i = 0 then lk z i (z.A 42 i) else z)
def zlk (n : Nat) (z : Sg) : Sg := lo3 (n - 1) 1 (lo2 (n - 1) (lo1 n 0 z))
theorem E.heq {y : MI} {d k n pc : Nat} {lv : List (Nat × Value)} {st : List Value} {h : HP} {Q : Option Value → HP → Prop} (h' : HP) (e : h = h') (hE : E y d k n pc lv st h' Q) : E y d k n pc lv st h Q := e ▸ hE
theorem A46_lk (z : Sg) (i : Nat) (g : Int32) : (lk z i g).A 46 = upd (z.A 46) g.toNatClampNeg (z.A 46 g.toNatClampNeg + 1) := rfl
theorem lk_cnt {n i g0 : Nat} {z : Sg} (hn : n ≤ 60) (h0 : g0 < n) (hc : ∀ g, g < n → ∃ c, c < i ∧ z.A 46 g = nI c) : ∀ g, g < n → ∃ c, c < i + 1 ∧ (lk z i (nI g0)).A 46 g = nI c := by
  intro g hg
  rw [A46_lk, nI_clamp (show g0 < 2 ^ 31 by omega)]
  by_cases h : g = g0
  · subst h
    obtain ⟨c, a, b⟩ := hc g hg
    exact ⟨c + 1, by omega, by rw [pk_us, b, nI_1]⟩
  · obtain ⟨c, a, b⟩ := hc g hg
    exact ⟨c, by omega, by rw [pk_un h, b]⟩
/-- the model's groups lie below n -/
def inOK (n : Nat) (z : Sg) : Prop := ∀ i, 0 < i → i < n → ∃ g, g < n ∧ z.A 42 i = nI g
theorem l_lo3 {n : Nat} (hn : n ≤ 60) : ∀ (m i : Nat) (z : Sg), 1 ≤ i → i + m = n → z.F 39 5 = nI n → inOK n z → (∀ g, g < n → ∃ c, c < i ∧ z.A 46 g = nI c) → E mMod_looks 0 0 0 108 [(0, .ref 39), (1, .int (nI i))] [] (hp z) (Det none (hp (lo3 m i z))) := by
  intro m
  induction m with
  | zero =>
    intro i z h1 hi hF hI hc
    refine E_iload_n dX11_looks_108 rfl ?_
    refine E_aload_n dX11_looks_109 rfl ?_
    refine E_getf 5 dX11_looks_110 fl_X11_22 (by decide) (hg_39 _) rfl ?_
    rw [hF]
    refine E_icmp_ge 180 dX11_looks_113 (by decide) (fun c_113 => ?_) (fun c_113 => ?_)
    · exact E_vret dX11_looks_180 rfl ⟨rfl, rfl⟩
    · exact absurd (nI_le (by omega) (by omega)) c_113
  | succ m ih =>
    intro i z h1 hi hF hI hc
    have hcl : (nI i).toNatClampNeg = i := nI_clamp (by omega)
    obtain ⟨g, hg, eg⟩ := hI i (by omega) (by omega)
    obtain ⟨c, hc1, ec⟩ := hc g hg
    have hgc : (nI g).toNatClampNeg = g := nI_clamp (by omega)
    have hgin : vp_in (nI g) 60 := vp_in_nI (by omega) (by omega)
    refine E_iload_n dX11_looks_108 rfl ?_
    refine E_aload_n dX11_looks_109 rfl ?_
    refine E_getf 5 dX11_looks_110 fl_X11_22 (by decide) (hg_39 _) rfl ?_
    rw [hF]
    refine E_icmp_ge 180 dX11_looks_113 (by decide) (fun c_113 => ?_) (fun c_113 => ?_)
    · exact absurd c_113 (nI_ge (by omega) (by omega))
    · refine E_aload_n dX11_looks_116 rfl ?_
      refine E_getf 6 dX11_looks_117 fl_X11_26 (by decide) (hg_39 _) rfl ?_
      refine E_iload_n dX11_looks_120 rfl ?_
      refine E_zald dX11_looks_121 (by decide) (hg_44 _) (vp_in_nI (by omega) (by omega)) ?_
      rw [hcl]
      refine E_if_ne 128 dX11_looks_122 (by decide) (fun c_122 => ?_) (fun c_122 => ?_)
      · refine E_aload_n dX11_looks_128 rfl ?_
        refine E_getf 3 dX11_looks_129 fl_X11_16 (by decide) (hg_39 _) rfl ?_
        refine E_iload_n dX11_looks_132 rfl ?_
        refine E_iald dX11_looks_133 (by decide) (hg_42 _) (vp_in_nI (by omega) (by omega)) ?_
        rw [hcl, eg]
        refine E_istore_n dX11_looks_134 (by decide) rfl ?_
        refine E_aload_n dX11_looks_135 rfl ?_
        refine E_getf 7 dX11_looks_136 fl_X11_30 (by decide) (hg_39 _) rfl ?_
        refine E_bipush (v := 60) dX11_looks_139 rfl ?_
        refine E_iload_n dX11_looks_141 rfl ?_
        refine E_imul dX11_looks_142 ?_
        refine E_aload_n dX11_looks_143 rfl ?_
        refine E_getf 8 dX11_looks_144 fl_X11_33 (by decide) (hg_39 _) rfl ?_
        refine E_iload_n dX11_looks_147 rfl ?_
        refine E_iald dX11_looks_148 (by decide) (hg_46 _) (hgin) ?_
        refine E_iadd dX11_looks_149 ?_
        refine E_iload_n dX11_looks_150 rfl ?_
        refine E_iast dX11_looks_151 (by decide) (hg_45 _) (by rw [hgc, ec, show (60 : Int32) = nI 60 from rfl, pk_mul, nI_add]; exact vp_in_nI (by omega) (by omega)) ?_
        rw [hs_45]
        refine E_aload_n dX11_looks_152 rfl ?_
        refine E_getf 8 dX11_looks_153 fl_X11_33 (by decide) (hg_39 _) rfl ?_
        refine E_iload_n dX11_looks_156 rfl ?_
        refine E_dup2 dX11_looks_157 rfl rfl ?_
        refine E_iald (f := z.A 46) dX11_looks_158 (by decide) (hg_46 _) (hgin) ?_
        refine E_iconst (v := 1) dX11_looks_159 rfl ?_
        refine E_iadd dX11_looks_160 ?_
        refine E_iast (f := z.A 46) dX11_looks_161 (by decide) (hg_46 _) (hgin) ?_
        rw [hs_46]
        refine E_aload_n dX11_looks_162 rfl ?_
        refine E_getf 9 dX11_looks_163 fl_X11_36 (by decide) (hg_39 _) rfl ?_
        refine E_iload_n dX11_looks_166 rfl ?_
        refine E_aload_n dX11_looks_167 rfl ?_
        refine E_getf 8 dX11_looks_168 fl_X11_33 (by decide) (hg_39 _) rfl ?_
        refine E_iload_n dX11_looks_171 rfl ?_
        refine E_iald (f := upd (z.A 46) (nI g).toNatClampNeg (z.A 46 (nI g).toNatClampNeg + 1)) dX11_looks_172 (by decide) (hg_46 _) (hgin) ?_
        rw [show (upd (z.A 46) (nI g).toNatClampNeg (z.A 46 (nI g).toNatClampNeg + 1)) (nI g).toNatClampNeg = z.A 46 g + 1 by rw [hgc, pk_us]]
        refine E_iast (f := z.A 47) dX11_looks_173 (by decide) (hg_47 _) (vp_in_nI (by omega) (by omega)) ?_
        rw [hs_47]
        refine E_iincL 1 dX11_looks_174 rfl rfl (by decide) rfl ?_
        rw [nI_1]
        refine E_goto 108 dX11_looks_177 (by decide) ?_
        refine E.pick [2, 0] rfl ?_
        rw [lo3]
        first | exact (by rw [if_neg (show ¬ ¬ z.A 44 i = 0 from fun h => h c_122)]; exact ih (i + 1) z (by omega) (by omega) hF hI (fun g' h' => by obtain ⟨c', a, b⟩ := hc g' h'; exact ⟨c', by omega, b⟩)) | exact (by rw [if_pos (show ¬ z.A 44 i = 0 from c_122), eg]; exact E.heq (hp (lk z i (nI g))) (by unfold lk; rw [pk_us, hcl, hgc]) (ih (i + 1) (lk z i (nI g)) (by omega) (by omega) hF hI (lk_cnt hn hg hc)))
      · refine E_goto 174 dX11_looks_125 (by decide) ?_
        refine E_iincL 1 dX11_looks_174 rfl rfl (by decide) rfl ?_
        rw [nI_1]
        refine E_goto 108 dX11_looks_177 (by decide) ?_
        refine E.pick [1, 0] rfl ?_
        rw [lo3]
        first | exact (by rw [if_neg (show ¬ ¬ z.A 44 i = 0 from fun h => h c_122)]; exact ih (i + 1) z (by omega) (by omega) hF hI (fun g' h' => by obtain ⟨c', a, b⟩ := hc g' h'; exact ⟨c', by omega, b⟩)) | exact (by rw [if_pos (show ¬ z.A 44 i = 0 from c_122), eg]; exact E.heq (hp (lk z i (nI g))) (by unfold lk; rw [pk_us, hcl, hgc]) (ih (i + 1) (lk z i (nI g)) (by omega) (by omega) hF hI (lk_cnt hn hg hc)))
theorem l_lo2 {n : Nat} (hn : n ≤ 60) : ∀ (i : Nat) (z : Sg), i < n → z.F 39 5 = nI n → inOK n z → (∀ g, g < n → z.A 46 g = 0) → E mMod_looks 0 0 0 57 [(0, .ref 39), (1, .int (nI i))] [] (hp z) (Det none (hp (lo3 (n - 1) 1 (lo2 i z)))) := by
  intro i
  induction i with
  | zero =>
    intro z hi hF hI hc
    refine E_iload_n dX11_looks_57 rfl ?_
    refine E_if_le 106 dX11_looks_58 (by decide) (fun c_58 => ?_) (fun c_58 => ?_)
    · refine E_iconst (v := 1) dX11_looks_106 rfl ?_
      refine E_istore_n dX11_looks_107 (by decide) rfl ?_
      refine E.pick [1, 0] rfl ?_
      exact l_lo3 hn (n - 1) 1 z (by omega) (by omega) hF hI (fun g hg => ⟨0, by omega, hc g hg⟩)
    · exact absurd (by decide) c_58
  | succ i ih =>
    intro z hi hF hI hc
    have hcl : (nI (i + 1)).toNatClampNeg = i + 1 := nI_clamp (by omega)
    obtain ⟨g, hg, eg⟩ := hI (i + 1) (by omega) (by omega)
    have hgc : (nI g).toNatClampNeg = g := nI_clamp (by omega)
    have hgin : vp_in (nI g) 60 := vp_in_nI (by omega) (by omega)
    refine E_iload_n dX11_looks_57 rfl ?_
    refine E_if_le 106 dX11_looks_58 (by decide) (fun c_58 => ?_) (fun c_58 => ?_)
    · exact absurd c_58 (nI_nle (by omega) (by omega))
    · refine E_aload_n dX11_looks_61 rfl ?_
      refine E_getf 6 dX11_looks_62 fl_X11_26 (by decide) (hg_39 _) rfl ?_
      refine E_aload_n dX11_looks_65 rfl ?_
      refine E_getf 3 dX11_looks_66 fl_X11_16 (by decide) (hg_39 _) rfl ?_
      refine E_iload_n dX11_looks_69 rfl ?_
      refine E_iald dX11_looks_70 (by decide) (hg_42 _) (vp_in_nI (by omega) (by omega)) ?_
      rw [hcl, eg]
      refine E_aload_n dX11_looks_71 rfl ?_
      refine E_getf 6 dX11_looks_72 fl_X11_26 (by decide) (hg_39 _) rfl ?_
      refine E_aload_n dX11_looks_75 rfl ?_
      refine E_getf 3 dX11_looks_76 fl_X11_16 (by decide) (hg_39 _) rfl ?_
      refine E_iload_n dX11_looks_79 rfl ?_
      refine E_iald dX11_looks_80 (by decide) (hg_42 _) (vp_in_nI (by omega) (by omega)) ?_
      rw [hcl, eg]
      refine E_zald dX11_looks_81 (by decide) (hg_44 _) (hgin) ?_
      refine E_if_ne 94 dX11_looks_82 (by decide) (fun c_82 => ?_) (fun c_82 => ?_)
      · refine E_iconst (v := 1) dX11_looks_94 rfl ?_
        refine E_goto 99 dX11_looks_95 (by decide) ?_
        refine E_zast dX11_looks_99 (by decide) (hg_44 _) (hgin) ?_
        rw [hs_44, vnb1]
        refine E_iincL (-1) dX11_looks_100 rfl rfl (by decide) rfl ?_
        rw [pk_m1]
        refine E_goto 57 dX11_looks_103 (by decide) ?_
        refine E.pick [1, 0] rfl ?_
        rw [lo2]
        first | exact (by rw [b2i_t (show loC z (i + 1) from Or.inl (by rw [eg]; exact c_82)), eg]; exact ih _ (by omega) hF hI hc) | exact (by rw [b2i_t (show loC z (i + 1) from Or.inr c_91), eg]; exact ih _ (by omega) hF hI hc) | exact (by rw [b2i_f (show ¬ loC z (i + 1) from fun h => h.elim (fun h => h (by rw [eg]; exact c_82)) (fun h => h c_91)), eg]; exact ih _ (by omega) hF hI hc)
      · refine E_aload_n dX11_looks_85 rfl ?_
        refine E_getf 6 dX11_looks_86 fl_X11_26 (by decide) (hg_39 _) rfl ?_
        refine E_iload_n dX11_looks_89 rfl ?_
        refine E_zald dX11_looks_90 (by decide) (hg_44 _) (vp_in_nI (by omega) (by omega)) ?_
        rw [hcl]
        refine E_if_eq 98 dX11_looks_91 (by decide) (fun c_91 => ?_) (fun c_91 => ?_)
        · refine E_iconst (v := 0) dX11_looks_98 rfl ?_
          refine E_zast dX11_looks_99 (by decide) (hg_44 _) (hgin) ?_
          rw [hs_44, vnb0]
          refine E_iincL (-1) dX11_looks_100 rfl rfl (by decide) rfl ?_
          rw [pk_m1]
          refine E_goto 57 dX11_looks_103 (by decide) ?_
          refine E.pick [1, 0] rfl ?_
          rw [lo2]
          first | exact (by rw [b2i_t (show loC z (i + 1) from Or.inl (by rw [eg]; exact c_82)), eg]; exact ih _ (by omega) hF hI hc) | exact (by rw [b2i_t (show loC z (i + 1) from Or.inr c_91), eg]; exact ih _ (by omega) hF hI hc) | exact (by rw [b2i_f (show ¬ loC z (i + 1) from fun h => h.elim (fun h => h (by rw [eg]; exact c_82)) (fun h => h c_91)), eg]; exact ih _ (by omega) hF hI hc)
        · refine E_iconst (v := 1) dX11_looks_94 rfl ?_
          refine E_goto 99 dX11_looks_95 (by decide) ?_
          refine E_zast dX11_looks_99 (by decide) (hg_44 _) (hgin) ?_
          rw [hs_44, vnb1]
          refine E_iincL (-1) dX11_looks_100 rfl rfl (by decide) rfl ?_
          rw [pk_m1]
          refine E_goto 57 dX11_looks_103 (by decide) ?_
          refine E.pick [1, 0] rfl ?_
          rw [lo2]
          first | exact (by rw [b2i_t (show loC z (i + 1) from Or.inl (by rw [eg]; exact c_82)), eg]; exact ih _ (by omega) hF hI hc) | exact (by rw [b2i_t (show loC z (i + 1) from Or.inr c_91), eg]; exact ih _ (by omega) hF hI hc) | exact (by rw [b2i_f (show ¬ loC z (i + 1) from fun h => h.elim (fun h => h (by rw [eg]; exact c_82)) (fun h => h c_91)), eg]; exact ih _ (by omega) hF hI hc)
theorem l_lo1 {n : Nat} (h1 : 1 ≤ n) (hn : n ≤ 60) : ∀ (m i : Nat) (z : Sg), i + m = n → z.F 39 5 = nI n → inOK n z → (∀ g, g < i → z.A 46 g = 0) → E mMod_looks 0 0 0 2 [(0, .ref 39), (1, .int (nI i))] [] (hp z) (Det none (hp (lo3 (n - 1) 1 (lo2 (n - 1) (lo1 m i z))))) := by
  intro m
  induction m with
  | zero =>
    intro i z hi hF hI hc
    refine E_iload_n dX11_looks_2 rfl ?_
    refine E_aload_n dX11_looks_3 rfl ?_
    refine E_getf 5 dX11_looks_4 fl_X11_22 (by decide) (hg_39 _) rfl ?_
    rw [hF]
    refine E_icmp_ge 50 dX11_looks_7 (by decide) (fun c_7 => ?_) (fun c_7 => ?_)
    · refine E_aload_n dX11_looks_50 rfl ?_
      refine E_getf 5 dX11_looks_51 fl_X11_22 (by decide) (hg_39 _) rfl ?_
      refine E_iconst (v := 1) dX11_looks_54 rfl ?_
      rw [hF]
      refine E_isub dX11_looks_55 ?_
      rw [show nI n - 1 = nI (n - 1) from pk_sub (b := 1) h1]
      refine E_istore_n dX11_looks_56 (by decide) rfl ?_
      refine E.pick [1, 0] rfl ?_
      exact l_lo2 hn (n - 1) z (by omega) hF hI (fun g hg => hc g (by omega))
    · exact absurd (nI_le (by omega) (by omega)) c_7
  | succ m ih =>
    intro i z hi hF hI hc
    have hcl : (nI i).toNatClampNeg = i := nI_clamp (by omega)
    refine E_iload_n dX11_looks_2 rfl ?_
    refine E_aload_n dX11_looks_3 rfl ?_
    refine E_getf 5 dX11_looks_4 fl_X11_22 (by decide) (hg_39 _) rfl ?_
    rw [hF]
    refine E_icmp_ge 50 dX11_looks_7 (by decide) (fun c_7 => ?_) (fun c_7 => ?_)
    · exact absurd c_7 (nI_ge (by omega) (by omega))
    · refine E_aload_n dX11_looks_10 rfl ?_
      refine E_getf 6 dX11_looks_11 fl_X11_26 (by decide) (hg_39 _) rfl ?_
      refine E_iload_n dX11_looks_14 rfl ?_
      refine E_aload_n dX11_looks_15 rfl ?_
      refine E_getf 1 dX11_looks_16 fl_X11_9 (by decide) (hg_39 _) rfl ?_
      refine E_iload_n dX11_looks_19 rfl ?_
      refine E_iald dX11_looks_20 (by decide) (hg_40 _) (vp_in_nI (by omega) (by omega)) ?_
      rw [hcl]
      refine E_if_eq 28 dX11_looks_21 (by decide) (fun c_21 => ?_) (fun c_21 => ?_)
      · refine E_iconst (v := 0) dX11_looks_28 rfl ?_
        refine E_zast dX11_looks_29 (by decide) (hg_44 _) (vp_in_nI (by omega) (by omega)) ?_
        rw [hs_44, vnb0]
        refine E_aload_n dX11_looks_30 rfl ?_
        refine E_getf 8 dX11_looks_31 fl_X11_33 (by decide) (hg_39 _) rfl ?_
        refine E_iload_n dX11_looks_34 rfl ?_
        refine E_iconst (v := 0) dX11_looks_35 rfl ?_
        refine E_iast (f := z.A 46) dX11_looks_36 (by decide) (hg_46 _) (vp_in_nI (by omega) (by omega)) ?_
        rw [hs_46]
        refine E_aload_n dX11_looks_37 rfl ?_
        refine E_getf 9 dX11_looks_38 fl_X11_36 (by decide) (hg_39 _) rfl ?_
        refine E_iload_n dX11_looks_41 rfl ?_
        refine E_iconst (v := (-1)) dX11_looks_42 rfl ?_
        refine E_iast (f := z.A 47) dX11_looks_43 (by decide) (hg_47 _) (vp_in_nI (by omega) (by omega)) ?_
        rw [hs_47]
        rw [hcl]
        refine E_iincL 1 dX11_looks_44 rfl rfl (by decide) rfl ?_
        rw [nI_1]
        refine E_goto 2 dX11_looks_47 (by decide) ?_
        refine E.pick [1, 0] rfl ?_
        rw [lo1]
        have hc2 : ∀ g, g < i + 1 → upd (z.A 46) i 0 g = 0 := fun g hg => by
          by_cases e : g = i
          · rw [e, pk_us]
          · rw [pk_un e]; exact hc g (by omega)
        first | exact (by rw [b2i_f (p := ¬ z.A 40 i = 0) (fun h => h c_21)]; exact ih (i + 1) _ (by omega) hF hI hc2) | exact (by rw [b2i_t (p := ¬ z.A 40 i = 0) c_21]; exact ih (i + 1) _ (by omega) hF hI hc2)
      · refine E_iconst (v := 1) dX11_looks_24 rfl ?_
        refine E_goto 29 dX11_looks_25 (by decide) ?_
        refine E_zast dX11_looks_29 (by decide) (hg_44 _) (vp_in_nI (by omega) (by omega)) ?_
        rw [hs_44, vnb1]
        refine E_aload_n dX11_looks_30 rfl ?_
        refine E_getf 8 dX11_looks_31 fl_X11_33 (by decide) (hg_39 _) rfl ?_
        refine E_iload_n dX11_looks_34 rfl ?_
        refine E_iconst (v := 0) dX11_looks_35 rfl ?_
        refine E_iast (f := z.A 46) dX11_looks_36 (by decide) (hg_46 _) (vp_in_nI (by omega) (by omega)) ?_
        rw [hs_46]
        refine E_aload_n dX11_looks_37 rfl ?_
        refine E_getf 9 dX11_looks_38 fl_X11_36 (by decide) (hg_39 _) rfl ?_
        refine E_iload_n dX11_looks_41 rfl ?_
        refine E_iconst (v := (-1)) dX11_looks_42 rfl ?_
        refine E_iast (f := z.A 47) dX11_looks_43 (by decide) (hg_47 _) (vp_in_nI (by omega) (by omega)) ?_
        rw [hs_47]
        rw [hcl]
        refine E_iincL 1 dX11_looks_44 rfl rfl (by decide) rfl ?_
        rw [nI_1]
        refine E_goto 2 dX11_looks_47 (by decide) ?_
        refine E.pick [1, 0] rfl ?_
        rw [lo1]
        have hc2 : ∀ g, g < i + 1 → upd (z.A 46) i 0 g = 0 := fun g hg => by
          by_cases e : g = i
          · rw [e, pk_us]
          · rw [pk_un e]; exact hc g (by omega)
        first | exact (by rw [b2i_f (p := ¬ z.A 40 i = 0) (fun h => h c_21)]; exact ih (i + 1) _ (by omega) hF hI hc2) | exact (by rw [b2i_t (p := ¬ z.A 40 i = 0) c_21]; exact ih (i + 1) _ (by omega) hF hI hc2)
theorem c_looks {n : Nat} (h1 : 1 ≤ n) (hn : n ≤ 60) (z : Sg) (hF : z.F 39 5 = nI n) (hI : inOK n z) : EM mMod_looks 0 0 0 [.ref 39] (hp z) (Det none (hp (zlk n z))) := by
  refine E_iconst (v := 0) dX11_looks_0 rfl ?_
  refine E_istore_n dX11_looks_1 (by decide) rfl ?_
  refine E.pick [1, 0] rfl ?_
  exact l_lo1 h1 hn n 0 z (by omega) hF hI (fun g hg => absurd hg (Nat.not_lt_zero g))
end
section
/-! node, clear, told: both sides -/
theorem F_li3 : ∀ (m i : Nat) (z : Sg), (li3 m i z).F = z.F
  | 0, _, _ => rfl
  | m + 1, i, z => by
    rw [li3, F_li3]
    split
    · rw [F_sb]
    · rfl
theorem F_zfl (n : Nat) (z : Sg) : (zfl n z).F = z.F := by
  unfold zfl
  rw [F_li3]
  show (li2 (n - 1) (li1 n 0 z)).F = z.F
  rw [F_li2, F_li1]
def zcm (z : Sg) (g : Int32) : Sg := stF (stF (stF (stF (stF z 39 11 g) 39 12 0) 39 13 (-1)) 39 14 (z.F 39 10)) 39 15 0
def zct (z : Sg) (g : Int32) : Sg := stF (stF (stF (stF (stF z 17 3 g) 17 4 (tg z 12 g (-1))) 17 5 (-1)) 17 6 (z.F 17 2)) 17 7 0
theorem c_comes (z : Sg) (g : Int32) : EM mMod_comes 0 0 0 [.ref 39, .int g] (hp z) (Det none (hp (zcm z g))) := by
  refine E_aload_n dX11_comes_0 rfl ?_
  refine E_iload_n dX11_comes_1 rfl ?_
  refine E_put 11 dX11_comes_2 fp_X11_101 (fitsV_int _) (by decide) (hg_39 _) (Nat.le_of_ble_eq_true rfl) ?_
  rw [hs_39_11]
  refine E_aload_n dX11_comes_5 rfl ?_
  refine E_iconst (v := 0) dX11_comes_6 rfl ?_
  refine E_put 12 dX11_comes_7 fp_X11_104 (fitsV_int _) (by decide) (hg_39 _) (Nat.le_of_ble_eq_true rfl) ?_
  rw [hs_39_12]
  refine E_aload_n dX11_comes_10 rfl ?_
  refine E_iconst (v := (-1)) dX11_comes_11 rfl ?_
  refine E_put 13 dX11_comes_12 fp_X11_39 (fitsV_int _) (by decide) (hg_39 _) (Nat.le_of_ble_eq_true rfl) ?_
  rw [hs_39_13]
  refine E_aload_n dX11_comes_15 rfl ?_
  refine E_aload_n dX11_comes_16 rfl ?_
  refine E_getf 10 (v := .int (z.F 39 10)) dX11_comes_17 fl_X11_107 (by decide) (hg_39 _) rfl ?_
  refine E_put 14 dX11_comes_20 fp_X11_110 (fitsV_int _) (by decide) (hg_39 _) (Nat.le_of_ble_eq_true rfl) ?_
  rw [hs_39_14]
  refine E_aload_n dX11_comes_23 rfl ?_
  refine E_iconst (v := 0) dX11_comes_24 rfl ?_
  refine E_put 15 dX11_comes_25 fp_X11_113 (fitsV_int _) (by decide) (hg_39 _) (Nat.le_of_ble_eq_true rfl) ?_
  rw [hs_39_15]
  exact E_vret dX11_comes_28 rfl ⟨rfl, rfl⟩
theorem c_comeTo (z : Sg) (hs : (z.F 6 10).toInt ≤ 60) (g : Int32) : EM mLamp_comeTo 2 0 0 [.ref 17, .int g] (hp z) (Det none (hp (zct z g))) := by
  refine E_aload_n dX3_comeTo_0 rfl ?_
  refine E_iload_n dX3_comeTo_1 rfl ?_
  refine E_put 3 dX3_comeTo_2 fp_X3_23 (fitsV_int _) (by decide) (hg_17 _) (Nat.le_of_ble_eq_true rfl) ?_
  rw [hs_17_3]
  refine E_aload_n dX3_comeTo_5 rfl ?_
  refine E_aload_n dX3_comeTo_6 rfl ?_
  refine E_getf 0 dX3_comeTo_7 fl_X3_9 (by decide) (hg_17 _) rfl ?_
  refine E_iload_n dX3_comeTo_10 rfl ?_
  refine E_V1 (r := some (.int (tg z 12 g (-1)))) dX3_comeTo_11 cv_X3_27 (by decide) (hg_6 _) rfl rfl (Nat.le_of_ble_eq_true rfl) (Nat.le_of_ble_eq_true rfl) (c_firstIn (stF z 17 3 g) hs g) (by decide) (Nat.zero_le _) (Nat.zero_le _) ?_
  refine E_put 4 dX3_comeTo_14 fp_X3_33 (fitsV_int _) (by decide) (hg_17 _) (Nat.le_of_ble_eq_true rfl) ?_
  rw [hs_17_4]
  refine E_aload_n dX3_comeTo_17 rfl ?_
  refine E_iconst (v := (-1)) dX3_comeTo_18 rfl ?_
  refine E_put 5 dX3_comeTo_19 fp_X3_36 (fitsV_int _) (by decide) (hg_17 _) (Nat.le_of_ble_eq_true rfl) ?_
  rw [hs_17_5]
  refine E_aload_n dX3_comeTo_22 rfl ?_
  refine E_aload_n dX3_comeTo_23 rfl ?_
  refine E_getf 2 (v := .int (z.F 17 2)) dX3_comeTo_24 fl_X3_39 (by decide) (hg_17 _) rfl ?_
  refine E_put 6 dX3_comeTo_27 fp_X3_42 (fitsV_int _) (by decide) (hg_17 _) (Nat.le_of_ble_eq_true rfl) ?_
  rw [hs_17_6]
  refine E_aload_n dX3_comeTo_30 rfl ?_
  refine E_iconst (v := 0) dX3_comeTo_31 rfl ?_
  refine E_put 7 dX3_comeTo_32 fp_X3_45 (fitsV_int _) (by decide) (hg_17 _) (Nat.le_of_ble_eq_true rfl) ?_
  rw [hs_17_7]
  exact E_vret dX3_comeTo_35 rfl ⟨rfl, rfl⟩
def zst (n : Nat) (z : Sg) : Sg := zct (zfl n z) 0
theorem c_showTrayAnew {n : Nat} (h1 : 1 ≤ n) (hn : n ≤ 60) (z : Sg) (hF : z.F 6 10 = nI n) : EM mDesk_showTrayAnew 4 0 0 [.ref 3] (hp z) (Det none (hp (zst n z))) := by
  refine E_aload_n dX10_showTrayAnew_0 rfl ?_
  refine E_getf 1 dX10_showTrayAnew_1 fl_X10_19 (by decide) (hg_3 _) rfl ?_
  refine E_V0 dX10_showTrayAnew_4 cv_X10_208 (by decide) (hg_6 _) rfl rfl (Nat.le_of_ble_eq_true rfl) (Nat.le_of_ble_eq_true rfl) (c_findLights h1 hn z hF) (by decide) (Nat.zero_le _) (Nat.zero_le _) ?_
  refine E_aload_n dX10_showTrayAnew_7 rfl ?_
  refine E_getf 2 dX10_showTrayAnew_8 fl_X10_28 (by decide) (hg_3 _) rfl ?_
  refine E_iconst (v := 0) dX10_showTrayAnew_11 rfl ?_
  refine E_V1 dX10_showTrayAnew_12 cv_X10_119 (by decide) (hg_17 _) rfl rfl (Nat.le_of_ble_eq_true rfl) (Nat.le_of_ble_eq_true rfl) (c_comeTo (zfl n z) (by rw [F_zfl, hF, nI_toInt (by omega)]; omega) 0) (by decide) (Nat.zero_le _) (Nat.zero_le _) ?_
  exact E_vret dX10_showTrayAnew_15 rfl ⟨rfl, rfl⟩
theorem c_node {n : Nat} (h1 : 1 ≤ n) (hn : n ≤ 60) (z : Sg) (hF : z.F 6 10 = nI n) (g k v : Int32) : EM mDesk_node 5 0 0 [.ref 3, .int g, .int k, .int v] (hp z) (Det (some (.int (if addOK z g k v then z.F 6 10 else (-1)))) (hp (if addOK z g k v then zst (n + 1) (zadd z g k v) else z))) := by
  have hz : (z.F 6 10).toInt = (n : Int) := by rw [hF, nI_toInt (by omega)]
  by_cases hok : addOK z g k v
  · have hlt : n < 60 := by have := hok.1; omega
    refine E_aload_n dX10_node_0 rfl ?_
    refine E_getf 1 dX10_node_1 fl_X10_19 (by decide) (hg_3 _) rfl ?_
    refine E_iload_n dX10_node_4 rfl ?_
    refine E_iload_n dX10_node_5 rfl ?_
    refine E_iload_n dX10_node_6 rfl ?_
    refine E_V3 dX10_node_7 cv_X10_78 (by decide) (hg_6 _) rfl rfl (Nat.le_of_ble_eq_true rfl) (Nat.le_of_ble_eq_true rfl) (c_add z (by omega) (by omega) g k v) (by decide) (Nat.zero_le _) (Nat.zero_le _) ?_
    simp only [if_pos hok]
    refine E_istore dX10_node_10 (by decide) rfl ?_
    refine E_iload dX10_node_12 rfl ?_
    refine E_iconst (v := (-1)) dX10_node_14 rfl ?_
    refine E_icmp_eq 22 dX10_node_15 (by decide) (fun c_15 => ?_) (fun c_15 => ?_)
    · exact absurd c_15 (fun h => by rw [i32_eq, hz] at h; simp only [Int32.reduceToInt] at h; omega)
    · refine E_aload_n dX10_node_18 rfl ?_
      refine E_V0 dX10_node_19 cv_X10_82 (by decide) (hg_3 _) rfl rfl (Nat.le_of_ble_eq_true rfl) (Nat.le_of_ble_eq_true rfl) (c_showTrayAnew (n := n + 1) (by omega) (by omega) (zadd z g k v) (by show z.F 6 10 + 1 = nI (n + 1); rw [hF, nI_1])) (by decide) (Nat.zero_le _) (Nat.zero_le _) ?_
      refine E_iload dX10_node_22 rfl ?_
      exact E_iret dX10_node_24 rfl rfl ⟨rfl, rfl⟩
  ·
    refine E_aload_n dX10_node_0 rfl ?_
    refine E_getf 1 dX10_node_1 fl_X10_19 (by decide) (hg_3 _) rfl ?_
    refine E_iload_n dX10_node_4 rfl ?_
    refine E_iload_n dX10_node_5 rfl ?_
    refine E_iload_n dX10_node_6 rfl ?_
    refine E_V3 dX10_node_7 cv_X10_78 (by decide) (hg_6 _) rfl rfl (Nat.le_of_ble_eq_true rfl) (Nat.le_of_ble_eq_true rfl) (c_add z (by omega) (by omega) g k v) (by decide) (Nat.zero_le _) (Nat.zero_le _) ?_
    simp only [if_neg hok]
    refine E_istore dX10_node_10 (by decide) rfl ?_
    refine E_iload dX10_node_12 rfl ?_
    refine E_iconst (v := (-1)) dX10_node_14 rfl ?_
    refine E_icmp_eq 22 dX10_node_15 (by decide) (fun c_15 => ?_) (fun c_15 => ?_)
    · refine E_iload dX10_node_22 rfl ?_
      exact E_iret dX10_node_24 rfl rfl ⟨rfl, rfl⟩
    · exact absurd rfl c_15
def zemp (z : Sg) : Sg := stF (stA (stA (stA z 7 (upd (z.A 7) 0 0)) 8 (upd (z.A 8) 0 (-1))) 9 (upd (z.A 9) 0 (-1))) 6 10 1
theorem c_clear (z : Sg) : EM mDesk_clear 5 0 0 [.ref 3] (hp z) (Det none (hp (zst 1 (zemp z)))) := by
  refine E_aload_n dX10_clear_0 rfl ?_
  refine E_getf 1 dX10_clear_1 fl_X10_19 (by decide) (hg_3 _) rfl ?_
  refine E_V0 dX10_clear_4 cv_X10_85 (by decide) (hg_6 _) rfl rfl (Nat.le_of_ble_eq_true rfl) (Nat.le_of_ble_eq_true rfl) (c_empty z) (by decide) (Nat.zero_le _) (Nat.zero_le _) ?_
  refine E_aload_n dX10_clear_7 rfl ?_
  refine E_V0 dX10_clear_8 cv_X10_82 (by decide) (hg_3 _) rfl rfl (Nat.le_of_ble_eq_true rfl) (Nat.le_of_ble_eq_true rfl) (c_showTrayAnew (n := 1) (by omega) (by omega) (zemp z) rfl) (by decide) (Nat.zero_le _) (Nat.zero_le _) ?_
  exact E_vret dX10_clear_11 rfl ⟨rfl, rfl⟩
def toldD (z : Sg) (x w : Int32) : Int32 := if ltN x (z.F 6 10) then (if w.toInt = 0 then tg z 7 x (-1) else if w.toInt = 1 then tg z 8 x (-1) else if w.toInt = 2 then tg z 9 x (-1) else if w.toInt = 3 then tg z 10 x (-1) else if w.toInt = 4 then tg z 11 x 0 else (-1)) else (-1)
theorem c_told (z : Sg) (hs : (z.F 6 10).toInt ≤ 60) (x w : Int32) : EM mDesk_told 2 0 0 [.ref 3, .int x, .int w] (hp z) (Det (some (.int (toldD z x w))) (hp z)) := by
  refine E_aload_n dX10_told_0 rfl ?_
  refine E_getf 1 dX10_told_1 fl_X10_19 (by decide) (hg_3 _) rfl ?_
  refine E_iload_n dX10_told_4 rfl ?_
  refine E_V1 dX10_told_5 cv_X10_88 (by decide) (hg_6 _) rfl rfl (Nat.le_of_ble_eq_true rfl) (Nat.le_of_ble_eq_true rfl) (c_has z x) (by decide) (Nat.zero_le _) (Nat.zero_le _) ?_
  refine E_if_ne 13 dX10_told_8 (by decide) (fun c_8 => ?_) (fun c_8 => ?_)
  · refine E_iload_n dX10_told_13 rfl ?_
    by_cases c_14_0 : (w).toInt = 0
    · refine E_tableIn 48 dX10_told_14 (by omega) (by omega) (by rw [c_14_0]; rfl) (by decide) ?_
      refine E_aload_n dX10_told_48 rfl ?_
      refine E_getf 1 dX10_told_49 fl_X10_19 (by decide) (hg_3 _) rfl ?_
      refine E_iload_n dX10_told_52 rfl ?_
      refine E_V1 dX10_told_53 cv_X10_92 (by decide) (hg_6 _) rfl rfl (Nat.le_of_ble_eq_true rfl) (Nat.le_of_ble_eq_true rfl) (c_kindOf z hs x) (by decide) (Nat.zero_le _) (Nat.zero_le _) ?_
      exact E_iret dX10_told_56 rfl rfl ⟨by rw [toldD, if_pos (b2i_ne c_8)]; simp only [*, if_true, if_false, reduceIte, Int.reduceEq, reduceCtorEq], rfl⟩
    by_cases c_14_1 : (w).toInt = 1
    · refine E_tableIn 57 dX10_told_14 (by omega) (by omega) (by rw [c_14_1]; rfl) (by decide) ?_
      refine E_aload_n dX10_told_57 rfl ?_
      refine E_getf 1 dX10_told_58 fl_X10_19 (by decide) (hg_3 _) rfl ?_
      refine E_iload_n dX10_told_61 rfl ?_
      refine E_V1 dX10_told_62 cv_X10_96 (by decide) (hg_6 _) rfl rfl (Nat.le_of_ble_eq_true rfl) (Nat.le_of_ble_eq_true rfl) (c_valueOf z hs x) (by decide) (Nat.zero_le _) (Nat.zero_le _) ?_
      exact E_iret dX10_told_65 rfl rfl ⟨by rw [toldD, if_pos (b2i_ne c_8)]; simp only [*, if_true, if_false, reduceIte, Int.reduceEq, reduceCtorEq], rfl⟩
    by_cases c_14_2 : (w).toInt = 2
    · refine E_tableIn 66 dX10_told_14 (by omega) (by omega) (by rw [c_14_2]; rfl) (by decide) ?_
      refine E_aload_n dX10_told_66 rfl ?_
      refine E_getf 1 dX10_told_67 fl_X10_19 (by decide) (hg_3 _) rfl ?_
      refine E_iload_n dX10_told_70 rfl ?_
      refine E_V1 dX10_told_71 cv_X10_99 (by decide) (hg_6 _) rfl rfl (Nat.le_of_ble_eq_true rfl) (Nat.le_of_ble_eq_true rfl) (c_groupOf z hs x) (by decide) (Nat.zero_le _) (Nat.zero_le _) ?_
      exact E_iret dX10_told_74 rfl rfl ⟨by rw [toldD, if_pos (b2i_ne c_8)]; simp only [*, if_true, if_false, reduceIte, Int.reduceEq, reduceCtorEq], rfl⟩
    by_cases c_14_3 : (w).toInt = 3
    · refine E_tableIn 75 dX10_told_14 (by omega) (by omega) (by rw [c_14_3]; rfl) (by decide) ?_
      refine E_aload_n dX10_told_75 rfl ?_
      refine E_getf 1 dX10_told_76 fl_X10_19 (by decide) (hg_3 _) rfl ?_
      refine E_iload_n dX10_told_79 rfl ?_
      refine E_V1 dX10_told_80 cv_X10_102 (by decide) (hg_6 _) rfl rfl (Nat.le_of_ble_eq_true rfl) (Nat.le_of_ble_eq_true rfl) (c_placeOf z hs x) (by decide) (Nat.zero_le _) (Nat.zero_le _) ?_
      exact E_iret dX10_told_83 rfl rfl ⟨by rw [toldD, if_pos (b2i_ne c_8)]; simp only [*, if_true, if_false, reduceIte, Int.reduceEq, reduceCtorEq], rfl⟩
    by_cases c_14_4 : (w).toInt = 4
    · refine E_tableIn 84 dX10_told_14 (by omega) (by omega) (by rw [c_14_4]; rfl) (by decide) ?_
      refine E_aload_n dX10_told_84 rfl ?_
      refine E_getf 1 dX10_told_85 fl_X10_19 (by decide) (hg_3 _) rfl ?_
      refine E_iload_n dX10_told_88 rfl ?_
      refine E_V1 dX10_told_89 cv_X10_105 (by decide) (hg_6 _) rfl rfl (Nat.le_of_ble_eq_true rfl) (Nat.le_of_ble_eq_true rfl) (c_lightsOf z hs x) (by decide) (Nat.zero_le _) (Nat.zero_le _) ?_
      exact E_iret dX10_told_92 rfl rfl ⟨by rw [toldD, if_pos (b2i_ne c_8)]; simp only [*, if_true, if_false, reduceIte, Int.reduceEq, reduceCtorEq], rfl⟩
    refine E_tableOut 93 dX10_told_14 (by omega) (by decide) ?_
    refine E_iconst (v := (-1)) dX10_told_93 rfl ?_
    exact E_iret dX10_told_94 rfl rfl ⟨by rw [toldD, if_pos (b2i_ne c_8)]; simp only [*, if_true, if_false, reduceIte, Int.reduceEq, reduceCtorEq], rfl⟩
  · refine E_iconst (v := (-1)) dX10_told_11 rfl ?_
    exact E_iret dX10_told_12 rfl rfl ⟨by rw [toldD, if_neg (b2i_e0 c_8)], rfl⟩
def zad (z : Sg) (g k v : Int32) : Sg := stF (stA (stA (stA z 40 (upd (z.A 40) (z.F 39 5).toNatClampNeg k)) 41 (upd (z.A 41) (z.F 39 5).toNatClampNeg v)) 42 (upd (z.A 42) (z.F 39 5).toNatClampNeg g)) 39 5 (z.F 39 5 + 1)
theorem c_adds (z : Sg) (hin : vp_in (z.F 39 5) 60) (g k v : Int32) : EM mMod_adds 0 0 0 [.ref 39, .int g, .int k, .int v] (hp z) (Det (some (.int (z.F 39 5))) (hp (zad z g k v))) := by
  refine E_aload_n dX11_adds_0 rfl ?_
  refine E_getf 1 dX11_adds_1 fl_X11_9 (by decide) (hg_39 _) rfl ?_
  refine E_aload_n dX11_adds_4 rfl ?_
  refine E_getf 5 dX11_adds_5 fl_X11_22 (by decide) (hg_39 _) rfl ?_
  refine E_iload_n dX11_adds_8 rfl ?_
  refine E_iast dX11_adds_9 (by decide) (hg_40 _) (hin) ?_
  rw [hs_40]
  refine E_aload_n dX11_adds_10 rfl ?_
  refine E_getf 2 dX11_adds_11 fl_X11_13 (by decide) (hg_39 _) rfl ?_
  refine E_aload_n dX11_adds_14 rfl ?_
  refine E_getf 5 (v := .int (z.F 39 5)) dX11_adds_15 fl_X11_22 (by decide) (hg_39 _) rfl ?_
  refine E_iload_n dX11_adds_18 rfl ?_
  refine E_iast (f := z.A 41) dX11_adds_19 (by decide) (hg_41 _) (hin) ?_
  rw [hs_41]
  refine E_aload_n dX11_adds_20 rfl ?_
  refine E_getf 3 dX11_adds_21 fl_X11_16 (by decide) (hg_39 _) rfl ?_
  refine E_aload_n dX11_adds_24 rfl ?_
  refine E_getf 5 (v := .int (z.F 39 5)) dX11_adds_25 fl_X11_22 (by decide) (hg_39 _) rfl ?_
  refine E_iload_n dX11_adds_28 rfl ?_
  refine E_iast (f := z.A 42) dX11_adds_29 (by decide) (hg_42 _) (hin) ?_
  rw [hs_42]
  refine E_aload_n dX11_adds_30 rfl ?_
  refine E_dup dX11_adds_31 rfl ?_
  refine E_getf 5 (v := .int (z.F 39 5)) dX11_adds_32 fl_X11_22 (by decide) (hg_39 _) rfl ?_
  refine E_iconst (v := 1) dX11_adds_35 rfl ?_
  refine E_iadd dX11_adds_36 ?_
  refine E_put 5 dX11_adds_37 fp_X11_22 (fitsV_int _) (by decide) (hg_39 _) (Nat.le_of_ble_eq_true rfl) ?_
  rw [hs_39_5]
  refine E_aload_n dX11_adds_40 rfl ?_
  refine E_getf 5 (v := .int (z.F 39 5 + 1)) dX11_adds_41 fl_X11_22 (by decide) (hg_39 _) rfl ?_
  refine E_iconst (v := 1) dX11_adds_44 rfl ?_
  refine E_isub dX11_adds_45 ?_
  exact E_iret dX11_adds_46 rfl rfl ⟨by rw [i32_ac], rfl⟩
theorem c_Mod_lights (z : Sg) (x : Int32) (hx : vp_in x 60) : EM mMod_lights 0 0 0 [.ref 39, .int x] (hp z) (Det (some (.int (z.A 46 x.toNatClampNeg))) (hp z)) := by
  refine E_aload_n dX11_lights_0 rfl ?_
  refine E_getf 8 dX11_lights_1 fl_X11_33 (by decide) (hg_39 _) rfl ?_
  refine E_iload_n dX11_lights_4 rfl ?_
  refine E_iald dX11_lights_5 (by decide) (hg_46 _) (hx) ?_
  exact E_iret dX11_lights_6 rfl rfl ⟨rfl, rfl⟩
theorem c_Mod_placeOf (z : Sg) (x : Int32) (hx : vp_in x 60) : EM mMod_placeOf 0 0 0 [.ref 39, .int x] (hp z) (Det (some (.int (z.A 47 x.toNatClampNeg))) (hp z)) := by
  refine E_aload_n dX11_placeOf_0 rfl ?_
  refine E_getf 9 dX11_placeOf_1 fl_X11_36 (by decide) (hg_39 _) rfl ?_
  refine E_iload_n dX11_placeOf_4 rfl ?_
  refine E_iald dX11_placeOf_5 (by decide) (hg_47 _) (hx) ?_
  exact E_iret dX11_placeOf_6 rfl rfl ⟨rfl, rfl⟩
def toldM (z : Sg) (x w : Int32) : Int32 := if ltN x (z.F 39 5) then (if w.toInt = 0 then z.A 40 x.toNatClampNeg else if w.toInt = 1 then z.A 41 x.toNatClampNeg else if w.toInt = 2 then z.A 42 x.toNatClampNeg else if w.toInt = 3 then z.A 47 x.toNatClampNeg else if w.toInt = 4 then (if z.A 40 x.toNatClampNeg = 0 then z.A 46 x.toNatClampNeg else 0) else (-1)) else (-1)
theorem c_Mod_told (z : Sg) (hs : (z.F 39 5).toInt ≤ 60) (x w : Int32) : EM mMod_told 1 0 0 [.ref 39, .int x, .int w] (hp z) (Det (some (.int (toldM z x w))) (hp (stF z 39 0 0))) := by
  refine E_aload_n dX11_told_0 rfl ?_
  refine E_iconst (v := 0) dX11_told_1 rfl ?_
  refine E_put 0 dX11_told_2 fp_X11_98 (fitsV_int _) (by decide) (hg_39 _) (Nat.le_of_ble_eq_true rfl) ?_
  rw [hs_39_0]
  refine E_aload_n dX11_told_5 rfl ?_
  refine E_iload_n dX11_told_6 rfl ?_
  refine E_V1 (r := some (.int (b2i (ltN x (z.F 39 5))))) dX11_told_7 cv_X11_116 (by decide) (hg_39 _) rfl rfl (Nat.le_of_ble_eq_true rfl) (Nat.le_of_ble_eq_true rfl) (c_isNode _ x) (by decide) (Nat.zero_le _) (Nat.zero_le _) ?_
  refine E_if_ne 15 dX11_told_10 (by decide) (fun c_10 => ?_) (fun c_10 => ?_)
  · have hx : vp_in x 60 := tg_in (b2i_ne c_10) hs
    refine E_iload_n dX11_told_15 rfl ?_
    by_cases c_16_0 : (w).toInt = 0
    · refine E_tableIn 52 dX11_told_16 (by omega) (by omega) (by rw [c_16_0]; rfl) (by decide) ?_
      refine E_aload_n dX11_told_52 rfl ?_
      refine E_getf 1 dX11_told_53 fl_X11_9 (by decide) (hg_39 _) rfl ?_
      refine E_iload_n dX11_told_56 rfl ?_
      refine E_iald (f := z.A 40) dX11_told_57 (by decide) (hg_40 _) (hx) ?_
      exact E_iret dX11_told_58 rfl rfl ⟨by rw [toldM, if_pos (b2i_ne c_10)]; simp only [*, if_true, if_false, reduceIte, Int.reduceEq, reduceCtorEq], rfl⟩
    by_cases c_16_1 : (w).toInt = 1
    · refine E_tableIn 59 dX11_told_16 (by omega) (by omega) (by rw [c_16_1]; rfl) (by decide) ?_
      refine E_aload_n dX11_told_59 rfl ?_
      refine E_getf 2 dX11_told_60 fl_X11_13 (by decide) (hg_39 _) rfl ?_
      refine E_iload_n dX11_told_63 rfl ?_
      refine E_iald (f := z.A 41) dX11_told_64 (by decide) (hg_41 _) (hx) ?_
      exact E_iret dX11_told_65 rfl rfl ⟨by rw [toldM, if_pos (b2i_ne c_10)]; simp only [*, if_true, if_false, reduceIte, Int.reduceEq, reduceCtorEq], rfl⟩
    by_cases c_16_2 : (w).toInt = 2
    · refine E_tableIn 66 dX11_told_16 (by omega) (by omega) (by rw [c_16_2]; rfl) (by decide) ?_
      refine E_aload_n dX11_told_66 rfl ?_
      refine E_getf 3 dX11_told_67 fl_X11_16 (by decide) (hg_39 _) rfl ?_
      refine E_iload_n dX11_told_70 rfl ?_
      refine E_iald (f := z.A 42) dX11_told_71 (by decide) (hg_42 _) (hx) ?_
      exact E_iret dX11_told_72 rfl rfl ⟨by rw [toldM, if_pos (b2i_ne c_10)]; simp only [*, if_true, if_false, reduceIte, Int.reduceEq, reduceCtorEq], rfl⟩
    by_cases c_16_3 : (w).toInt = 3
    · refine E_tableIn 73 dX11_told_16 (by omega) (by omega) (by rw [c_16_3]; rfl) (by decide) ?_
      refine E_aload_n dX11_told_73 rfl ?_
      refine E_iload_n dX11_told_74 rfl ?_
      refine E_V1 (r := some (.int (z.A 47 x.toNatClampNeg))) dX11_told_75 cv_X11_135 (by decide) (hg_39 _) rfl rfl (Nat.le_of_ble_eq_true rfl) (Nat.le_of_ble_eq_true rfl) (c_Mod_placeOf _ x hx) (by decide) (Nat.zero_le _) (Nat.zero_le _) ?_
      exact E_iret dX11_told_78 rfl rfl ⟨by rw [toldM, if_pos (b2i_ne c_10)]; simp only [*, if_true, if_false, reduceIte, Int.reduceEq, reduceCtorEq], rfl⟩
    by_cases c_16_4 : (w).toInt = 4
    · refine E_tableIn 79 dX11_told_16 (by omega) (by omega) (by rw [c_16_4]; rfl) (by decide) ?_
      refine E_aload_n dX11_told_79 rfl ?_
      refine E_getf 1 dX11_told_80 fl_X11_9 (by decide) (hg_39 _) rfl ?_
      refine E_iload_n dX11_told_83 rfl ?_
      refine E_iald (f := z.A 40) dX11_told_84 (by decide) (hg_40 _) (hx) ?_
      refine E_if_ne 96 dX11_told_85 (by decide) (fun c_85 => ?_) (fun c_85 => ?_)
      · refine E_iconst (v := 0) dX11_told_96 rfl ?_
        exact E_iret dX11_told_97 rfl rfl ⟨by rw [toldM, if_pos (b2i_ne c_10)]; simp only [*, if_true, if_false, reduceIte, Int.reduceEq, reduceCtorEq], rfl⟩
      · refine E_aload_n dX11_told_88 rfl ?_
        refine E_iload_n dX11_told_89 rfl ?_
        refine E_V1 (r := some (.int (z.A 46 x.toNatClampNeg))) dX11_told_90 cv_X11_139 (by decide) (hg_39 _) rfl rfl (Nat.le_of_ble_eq_true rfl) (Nat.le_of_ble_eq_true rfl) (c_Mod_lights _ x hx) (by decide) (Nat.zero_le _) (Nat.zero_le _) ?_
        refine E_goto 97 dX11_told_93 (by decide) ?_
        exact E_iret dX11_told_97 rfl rfl ⟨by rw [toldM, if_pos (b2i_ne c_10)]; simp only [*, if_true, if_false, reduceIte, Int.reduceEq, reduceCtorEq], rfl⟩
    refine E_tableOut 98 dX11_told_16 (by omega) (by decide) ?_
    refine E_iconst (v := (-1)) dX11_told_98 rfl ?_
    exact E_iret dX11_told_99 rfl rfl ⟨by rw [toldM, if_pos (b2i_ne c_10)]; simp only [*, if_true, if_false, reduceIte, Int.reduceEq, reduceCtorEq], rfl⟩
  · refine E_iconst (v := (-1)) dX11_told_13 rfl ?_
    exact E_iret dX11_told_14 rfl rfl ⟨by rw [toldM, if_neg (b2i_e0 c_10)], rfl⟩
def zlc (n : Nat) (z : Sg) : Sg := zcm (zlk n z) 0
theorem c_Mod_clear (z : Sg) : EM mMod_clear 1 0 0 [.ref 39] (hp z) (Det none (hp (zlc 1 (stF (stF z 39 0 0) 39 5 1)))) := by
  refine E_aload_n dX11_clear_0 rfl ?_
  refine E_iconst (v := 0) dX11_clear_1 rfl ?_
  refine E_put 0 dX11_clear_2 fp_X11_98 (fitsV_int _) (by decide) (hg_39 _) (Nat.le_of_ble_eq_true rfl) ?_
  rw [hs_39_0]
  refine E_aload_n dX11_clear_5 rfl ?_
  refine E_iconst (v := 1) dX11_clear_6 rfl ?_
  refine E_put 5 dX11_clear_7 fp_X11_22 (fitsV_int _) (by decide) (hg_39 _) (Nat.le_of_ble_eq_true rfl) ?_
  rw [hs_39_5]
  refine E_aload_n dX11_clear_10 rfl ?_
  refine E_V0 dX11_clear_11 cv_X11_95 (by decide) (hg_39 _) rfl rfl (Nat.le_of_ble_eq_true rfl) (Nat.le_of_ble_eq_true rfl) (c_looks (n := 1) (by omega) (by omega) _ rfl (fun i h1 h2 => absurd h2 (by omega))) (by decide) (Nat.zero_le _) (Nat.zero_le _) ?_
  refine E_aload_n dX11_clear_14 rfl ?_
  refine E_iconst (v := 0) dX11_clear_15 rfl ?_
  refine E_V1 dX11_clear_16 cv_X11_131 (by decide) (hg_39 _) rfl rfl (Nat.le_of_ble_eq_true rfl) (Nat.le_of_ble_eq_true rfl) (c_comes _ 0) (by decide) (Nat.zero_le _) (Nat.zero_le _) ?_
  exact E_vret dX11_clear_19 rfl ⟨rfl, rfl⟩
abbrev nodeOK (z : Sg) (g k v : Int32) : Prop := ¬ z.F 39 5 = 60 ∧ ltN g (z.F 39 5) ∧ z.A 40 g.toNatClampNeg = 0 ∧ inB k 0 6 ∧ (if k = 1 then isL v ∨ v = 32 else (hasV k → inB v 0 4))
theorem F_lo1 : ∀ (m i : Nat) (z : Sg), (lo1 m i z).F = z.F
  | 0, _, _ => rfl
  | m + 1, i, z => by rw [lo1, F_lo1]; rfl
theorem F_lo2 : ∀ (i : Nat) (z : Sg), (lo2 i z).F = z.F
  | 0, _ => rfl
  | i + 1, z => by rw [lo2, F_lo2]; rfl
theorem F_lo3 : ∀ (m i : Nat) (z : Sg), (lo3 m i z).F = z.F
  | 0, _, _ => rfl
  | m + 1, i, z => by
    rw [lo3, F_lo3]
    split <;> rfl
theorem F_zlk (n : Nat) (z : Sg) : (zlk n z).F = z.F := by
  unfold zlk
  rw [F_lo3, F_lo2, F_lo1]
theorem inOK_add {n : Nat} {z : Sg} (hn : n < 60) (hF : z.F 39 5 = nI n) (hI : inOK n z) {g k v : Int32} (hg : ltN g (z.F 39 5)) : inOK (n + 1) (zad (stF z 39 0 0) g k v) := by
  intro i h1 h2
  show ∃ g', g' < n + 1 ∧ upd (z.A 42) (z.F 39 5).toNatClampNeg g i = nI g'
  rw [hF, nI_clamp (by omega)]
  by_cases e : i = n
  · subst e
    have h3 := hg.2
    rw [hF, nI_toInt (by omega)] at h3
    refine ⟨g.toInt.toNat, by omega, ?_⟩
    rw [pk_us]
    apply Int32.toInt_inj.mp
    rw [nI_toInt (by omega)]
    have := hg.1
    omega
  · obtain ⟨g', a, b⟩ := hI i h1 (by omega)
    exact ⟨g', by omega, by rw [pk_un e, b]⟩
theorem c_Mod_node {n : Nat} (h1 : 1 ≤ n) (hn : n ≤ 60) (z : Sg) (hF : z.F 39 5 = nI n) (hI : inOK n z) (g k v : Int32) : EM mMod_node 1 0 0 [.ref 39, .int g, .int k, .int v] (hp z) (Det (some (.int (if nodeOK z g k v then z.F 39 5 else (-1)))) (hp (if nodeOK z g k v then zlc (n + 1) (zad (stF z 39 0 0) g k (if hasV k then v else (-1))) else stF z 39 0 0))) := by
  have hz : (z.F 39 5).toInt = (n : Int) := by rw [hF, nI_toInt (by omega)]
  have hs : (z.F 39 5).toInt ≤ 60 := by omega
  have hno : ∀ P : Prop, ¬ nodeOK z g k v → Det (some (.int (if nodeOK z g k v then z.F 39 5 else (-1)))) (hp (if nodeOK z g k v then zlc (n + 1) (zad (stF z 39 0 0) g k (if hasV k then v else (-1))) else stF z 39 0 0)) (some (.int (-1))) (hp (stF z 39 0 0)) := fun _ h => ⟨by rw [if_neg h], by rw [if_neg h]⟩
  refine E_aload_n dX11_node_0 rfl ?_
  refine E_iconst (v := 0) dX11_node_1 rfl ?_
  refine E_put 0 dX11_node_2 fp_X11_98 (fitsV_int _) (by decide) (hg_39 _) (Nat.le_of_ble_eq_true rfl) ?_
  rw [hs_39_0]
  refine E_aload_n dX11_node_5 rfl ?_
  refine E_getf 5 (v := .int (z.F 39 5)) dX11_node_6 fl_X11_22 (by decide) (hg_39 _) rfl ?_
  refine E_bipush (v := 60) dX11_node_9 rfl ?_
  refine E_icmp_eq 41 dX11_node_11 (by decide) (fun c_11 => ?_) (fun c_11 => ?_)
  · refine E_iconst (v := (-1)) dX11_node_41 rfl ?_
    exact E_iret dX11_node_42 rfl rfl (by first | exact hno True (fun h => h.1 c_11) | exact hno True (fun h => b2i_e0 c_19 h.2.1) | exact hno True (fun h => c_28 h.2.2.1) | exact hno True (fun h => b2i_e0 c_38 h.2.2.2.1))
  · refine E_aload_n dX11_node_14 rfl ?_
    refine E_iload_n dX11_node_15 rfl ?_
    refine E_V1 (r := some (.int (b2i (ltN g (z.F 39 5))))) dX11_node_16 cv_X11_116 (by decide) (hg_39 _) rfl rfl (Nat.le_of_ble_eq_true rfl) (Nat.le_of_ble_eq_true rfl) (c_isNode _ g) (by decide) (Nat.zero_le _) (Nat.zero_le _) ?_
    refine E_if_eq 41 dX11_node_19 (by decide) (fun c_19 => ?_) (fun c_19 => ?_)
    · refine E_iconst (v := (-1)) dX11_node_41 rfl ?_
      exact E_iret dX11_node_42 rfl rfl (by first | exact hno True (fun h => h.1 c_11) | exact hno True (fun h => b2i_e0 c_19 h.2.1) | exact hno True (fun h => c_28 h.2.2.1) | exact hno True (fun h => b2i_e0 c_38 h.2.2.2.1))
    · refine E_aload_n dX11_node_22 rfl ?_
      refine E_getf 1 dX11_node_23 fl_X11_9 (by decide) (hg_39 _) rfl ?_
      refine E_iload_n dX11_node_26 rfl ?_
      refine E_iald (f := z.A 40) dX11_node_27 (by decide) (hg_40 _) (tg_in (b2i_ne c_19) hs) ?_
      refine E_if_ne 41 dX11_node_28 (by decide) (fun c_28 => ?_) (fun c_28 => ?_)
      · refine E_iconst (v := (-1)) dX11_node_41 rfl ?_
        exact E_iret dX11_node_42 rfl rfl (by first | exact hno True (fun h => h.1 c_11) | exact hno True (fun h => b2i_e0 c_19 h.2.1) | exact hno True (fun h => c_28 h.2.2.1) | exact hno True (fun h => b2i_e0 c_38 h.2.2.2.1))
      · refine E_iload_n dX11_node_31 rfl ?_
        refine E_iconst (v := 0) dX11_node_32 rfl ?_
        refine E_bipush (v := 6) dX11_node_33 rfl ?_
        refine E_S3 dX11_node_35 cs_X11_120 (Nat.le_of_ble_eq_true rfl) (Nat.le_of_ble_eq_true rfl) (c_isIn _ k 0 6) (by decide) (Nat.zero_le _) (Nat.zero_le _) ?_
        refine E_if_ne 43 dX11_node_38 (by decide) (fun c_38 => ?_) (fun c_38 => ?_)
        · refine E_iload_n dX11_node_43 rfl ?_
          refine E_iconst (v := 1) dX11_node_44 rfl ?_
          refine E_icmp_eq 59 dX11_node_45 (by decide) (fun c_45 => ?_) (fun c_45 => ?_)
          · refine E_iconst (v := 1) dX11_node_59 rfl ?_
            refine E_goto 64 dX11_node_60 (by decide) ?_
            refine E_istore dX11_node_64 (by decide) rfl ?_
            refine E_iload_n dX11_node_66 rfl ?_
            refine E_iconst (v := 1) dX11_node_67 rfl ?_
            refine E_icmp_ne 87 dX11_node_68 (by decide) (fun c_68 => ?_) (fun c_68 => ?_)
            · refine E_iload dX11_node_87 rfl ?_
              refine E_if_eq 103 dX11_node_89 (by decide) (fun c_89 => ?_) (fun c_89 => ?_)
              · exact absurd c_89 (by decide)
              · refine E_iload_n dX11_node_92 rfl ?_
                refine E_iconst (v := 0) dX11_node_93 rfl ?_
                refine E_iconst (v := 4) dX11_node_94 rfl ?_
                refine E_S3 dX11_node_95 cs_X11_120 (Nat.le_of_ble_eq_true rfl) (Nat.le_of_ble_eq_true rfl) (c_isIn _ v 0 4) (by decide) (Nat.zero_le _) (Nat.zero_le _) ?_
                refine E_if_ne 103 dX11_node_98 (by decide) (fun c_98 => ?_) (fun c_98 => ?_)
                · have hlt : n < 60 := by
                    rcases Nat.lt_or_ge n 60 with h | h
                    · exact h
                    · exact absurd (by rw [hF, show n = 60 by omega]; rfl) c_11
                  have hok : nodeOK z g k v := ⟨c_11, b2i_ne c_19, c_28, b2i_ne c_38, by first | (rw [if_pos c_68]; first | exact Or.inl (b2i_ne c_75) | exact Or.inr c_81) | (rw [if_neg c_68]; first | exact fun _ => b2i_ne c_98 | exact fun h => absurd h (fun h => h.elim c_45 (fun h => h.elim c_50 c_56)))⟩
                  have hin : vp_in ((stF z 39 0 0).F 39 5) 60 := vp_in_iff.mpr ⟨by show 0 ≤ (z.F 39 5).toInt; omega, by show (z.F 39 5).toInt < _; omega⟩
                  refine E_aload_n dX11_node_103 rfl ?_
                  refine E_iload_n dX11_node_104 rfl ?_
                  refine E_iload_n dX11_node_105 rfl ?_
                  refine E_iload dX11_node_106 rfl ?_
                  refine E_if_eq 115 dX11_node_108 (by decide) (fun c_108 => ?_) (fun c_108 => ?_)
                  · exact absurd c_108 (by decide)
                  · refine E_iload_n dX11_node_111 rfl ?_
                    refine E_goto 116 dX11_node_112 (by decide) ?_
                    refine E_V3 dX11_node_116 cv_X11_127 (by decide) (hg_39 _) rfl rfl (Nat.le_of_ble_eq_true rfl) (Nat.le_of_ble_eq_true rfl) (c_adds (stF z 39 0 0) hin g k _) (by decide) (Nat.zero_le _) (Nat.zero_le _) ?_
                    refine E_pop dX11_node_119 rfl ?_
                    refine E_aload_n dX11_node_120 rfl ?_
                    refine E_V0 dX11_node_121 cv_X11_95 (by decide) (hg_39 _) rfl rfl (Nat.le_of_ble_eq_true rfl) (Nat.le_of_ble_eq_true rfl) (c_looks (n := n + 1) (by omega) (by omega) _ (by show z.F 39 5 + 1 = nI (n + 1); rw [hF, nI_1]) (by exact inOK_add hlt hF hI (b2i_ne c_19))) (by decide) (Nat.zero_le _) (Nat.zero_le _) ?_
                    refine E_aload_n dX11_node_124 rfl ?_
                    refine E_iconst (v := 0) dX11_node_125 rfl ?_
                    refine E_V1 dX11_node_126 cv_X11_131 (by decide) (hg_39 _) rfl rfl (Nat.le_of_ble_eq_true rfl) (Nat.le_of_ble_eq_true rfl) (c_comes _ 0) (by decide) (Nat.zero_le _) (Nat.zero_le _) ?_
                    refine E_aload_n dX11_node_129 rfl ?_
                    refine E_getf 5 dX11_node_130 fl_X11_22 (by decide) (hg_39 _) rfl ?_
                    refine E_iconst (v := 1) dX11_node_133 rfl ?_
                    refine E_isub dX11_node_134 ?_
                    exact E_iret dX11_node_135 rfl rfl ⟨by rw [if_pos hok]; show some (Value.int ((zlk (n + 1) (zad (stF z 39 0 0) g k _)).F 39 5 - 1)) = _; rw [F_zlk]; show some (Value.int (z.F 39 5 + 1 - 1)) = _; rw [i32_ac], by rw [if_pos hok]; first | rw [if_pos (show hasV k from Or.inl c_45)]; rfl | rw [if_pos (show hasV k from Or.inr (Or.inl c_50))]; rfl | rw [if_pos (show hasV k from Or.inr (Or.inr c_56))]; rfl | rw [if_neg (show ¬ hasV k from fun h => h.elim c_45 (fun h => h.elim c_50 c_56))]; rfl⟩
                · refine E_iconst (v := (-1)) dX11_node_101 rfl ?_
                  exact E_iret dX11_node_102 rfl rfl (by first | exact hno True (fun h => by have h9 := h.2.2.2.2; rw [if_pos c_68] at h9; exact h9.elim (b2i_e0 c_75) c_81) | exact hno True (fun h => by have h9 := h.2.2.2.2; rw [if_neg c_68] at h9; exact b2i_e0 c_98 (h9 (by first | exact Or.inl c_45 | exact Or.inr (Or.inl c_50) | exact Or.inr (Or.inr c_56)))))
            · refine E_iload_n dX11_node_71 rfl ?_
              refine E_S1 dX11_node_72 cs_X11_124 (Nat.le_of_ble_eq_true rfl) (Nat.le_of_ble_eq_true rfl) (c_isSmall _ v) (by decide) (Nat.zero_le _) (Nat.zero_le _) ?_
              refine E_if_ne 103 dX11_node_75 (by decide) (fun c_75 => ?_) (fun c_75 => ?_)
              · have hlt : n < 60 := by
                  rcases Nat.lt_or_ge n 60 with h | h
                  · exact h
                  · exact absurd (by rw [hF, show n = 60 by omega]; rfl) c_11
                have hok : nodeOK z g k v := ⟨c_11, b2i_ne c_19, c_28, b2i_ne c_38, by first | (rw [if_pos c_68]; first | exact Or.inl (b2i_ne c_75) | exact Or.inr c_81) | (rw [if_neg c_68]; first | exact fun _ => b2i_ne c_98 | exact fun h => absurd h (fun h => h.elim c_45 (fun h => h.elim c_50 c_56)))⟩
                have hin : vp_in ((stF z 39 0 0).F 39 5) 60 := vp_in_iff.mpr ⟨by show 0 ≤ (z.F 39 5).toInt; omega, by show (z.F 39 5).toInt < _; omega⟩
                refine E_aload_n dX11_node_103 rfl ?_
                refine E_iload_n dX11_node_104 rfl ?_
                refine E_iload_n dX11_node_105 rfl ?_
                refine E_iload dX11_node_106 rfl ?_
                refine E_if_eq 115 dX11_node_108 (by decide) (fun c_108 => ?_) (fun c_108 => ?_)
                · exact absurd c_108 (by decide)
                · refine E_iload_n dX11_node_111 rfl ?_
                  refine E_goto 116 dX11_node_112 (by decide) ?_
                  refine E_V3 dX11_node_116 cv_X11_127 (by decide) (hg_39 _) rfl rfl (Nat.le_of_ble_eq_true rfl) (Nat.le_of_ble_eq_true rfl) (c_adds (stF z 39 0 0) hin g k _) (by decide) (Nat.zero_le _) (Nat.zero_le _) ?_
                  refine E_pop dX11_node_119 rfl ?_
                  refine E_aload_n dX11_node_120 rfl ?_
                  refine E_V0 dX11_node_121 cv_X11_95 (by decide) (hg_39 _) rfl rfl (Nat.le_of_ble_eq_true rfl) (Nat.le_of_ble_eq_true rfl) (c_looks (n := n + 1) (by omega) (by omega) _ (by show z.F 39 5 + 1 = nI (n + 1); rw [hF, nI_1]) (by exact inOK_add hlt hF hI (b2i_ne c_19))) (by decide) (Nat.zero_le _) (Nat.zero_le _) ?_
                  refine E_aload_n dX11_node_124 rfl ?_
                  refine E_iconst (v := 0) dX11_node_125 rfl ?_
                  refine E_V1 dX11_node_126 cv_X11_131 (by decide) (hg_39 _) rfl rfl (Nat.le_of_ble_eq_true rfl) (Nat.le_of_ble_eq_true rfl) (c_comes _ 0) (by decide) (Nat.zero_le _) (Nat.zero_le _) ?_
                  refine E_aload_n dX11_node_129 rfl ?_
                  refine E_getf 5 dX11_node_130 fl_X11_22 (by decide) (hg_39 _) rfl ?_
                  refine E_iconst (v := 1) dX11_node_133 rfl ?_
                  refine E_isub dX11_node_134 ?_
                  exact E_iret dX11_node_135 rfl rfl ⟨by rw [if_pos hok]; show some (Value.int ((zlk (n + 1) (zad (stF z 39 0 0) g k _)).F 39 5 - 1)) = _; rw [F_zlk]; show some (Value.int (z.F 39 5 + 1 - 1)) = _; rw [i32_ac], by rw [if_pos hok]; first | rw [if_pos (show hasV k from Or.inl c_45)]; rfl | rw [if_pos (show hasV k from Or.inr (Or.inl c_50))]; rfl | rw [if_pos (show hasV k from Or.inr (Or.inr c_56))]; rfl | rw [if_neg (show ¬ hasV k from fun h => h.elim c_45 (fun h => h.elim c_50 c_56))]; rfl⟩
              · refine E_iload_n dX11_node_78 rfl ?_
                refine E_bipush (v := 32) dX11_node_79 rfl ?_
                refine E_icmp_eq 103 dX11_node_81 (by decide) (fun c_81 => ?_) (fun c_81 => ?_)
                · have hlt : n < 60 := by
                    rcases Nat.lt_or_ge n 60 with h | h
                    · exact h
                    · exact absurd (by rw [hF, show n = 60 by omega]; rfl) c_11
                  have hok : nodeOK z g k v := ⟨c_11, b2i_ne c_19, c_28, b2i_ne c_38, by first | (rw [if_pos c_68]; first | exact Or.inl (b2i_ne c_75) | exact Or.inr c_81) | (rw [if_neg c_68]; first | exact fun _ => b2i_ne c_98 | exact fun h => absurd h (fun h => h.elim c_45 (fun h => h.elim c_50 c_56)))⟩
                  have hin : vp_in ((stF z 39 0 0).F 39 5) 60 := vp_in_iff.mpr ⟨by show 0 ≤ (z.F 39 5).toInt; omega, by show (z.F 39 5).toInt < _; omega⟩
                  refine E_aload_n dX11_node_103 rfl ?_
                  refine E_iload_n dX11_node_104 rfl ?_
                  refine E_iload_n dX11_node_105 rfl ?_
                  refine E_iload dX11_node_106 rfl ?_
                  refine E_if_eq 115 dX11_node_108 (by decide) (fun c_108 => ?_) (fun c_108 => ?_)
                  · exact absurd c_108 (by decide)
                  · refine E_iload_n dX11_node_111 rfl ?_
                    refine E_goto 116 dX11_node_112 (by decide) ?_
                    refine E_V3 dX11_node_116 cv_X11_127 (by decide) (hg_39 _) rfl rfl (Nat.le_of_ble_eq_true rfl) (Nat.le_of_ble_eq_true rfl) (c_adds (stF z 39 0 0) hin g k _) (by decide) (Nat.zero_le _) (Nat.zero_le _) ?_
                    refine E_pop dX11_node_119 rfl ?_
                    refine E_aload_n dX11_node_120 rfl ?_
                    refine E_V0 dX11_node_121 cv_X11_95 (by decide) (hg_39 _) rfl rfl (Nat.le_of_ble_eq_true rfl) (Nat.le_of_ble_eq_true rfl) (c_looks (n := n + 1) (by omega) (by omega) _ (by show z.F 39 5 + 1 = nI (n + 1); rw [hF, nI_1]) (by exact inOK_add hlt hF hI (b2i_ne c_19))) (by decide) (Nat.zero_le _) (Nat.zero_le _) ?_
                    refine E_aload_n dX11_node_124 rfl ?_
                    refine E_iconst (v := 0) dX11_node_125 rfl ?_
                    refine E_V1 dX11_node_126 cv_X11_131 (by decide) (hg_39 _) rfl rfl (Nat.le_of_ble_eq_true rfl) (Nat.le_of_ble_eq_true rfl) (c_comes _ 0) (by decide) (Nat.zero_le _) (Nat.zero_le _) ?_
                    refine E_aload_n dX11_node_129 rfl ?_
                    refine E_getf 5 dX11_node_130 fl_X11_22 (by decide) (hg_39 _) rfl ?_
                    refine E_iconst (v := 1) dX11_node_133 rfl ?_
                    refine E_isub dX11_node_134 ?_
                    exact E_iret dX11_node_135 rfl rfl ⟨by rw [if_pos hok]; show some (Value.int ((zlk (n + 1) (zad (stF z 39 0 0) g k _)).F 39 5 - 1)) = _; rw [F_zlk]; show some (Value.int (z.F 39 5 + 1 - 1)) = _; rw [i32_ac], by rw [if_pos hok]; first | rw [if_pos (show hasV k from Or.inl c_45)]; rfl | rw [if_pos (show hasV k from Or.inr (Or.inl c_50))]; rfl | rw [if_pos (show hasV k from Or.inr (Or.inr c_56))]; rfl | rw [if_neg (show ¬ hasV k from fun h => h.elim c_45 (fun h => h.elim c_50 c_56))]; rfl⟩
                · refine E_goto 101 dX11_node_84 (by decide) ?_
                  refine E_iconst (v := (-1)) dX11_node_101 rfl ?_
                  exact E_iret dX11_node_102 rfl rfl (by first | exact hno True (fun h => by have h9 := h.2.2.2.2; rw [if_pos c_68] at h9; exact h9.elim (b2i_e0 c_75) c_81) | exact hno True (fun h => by have h9 := h.2.2.2.2; rw [if_neg c_68] at h9; exact b2i_e0 c_98 (h9 (by first | exact Or.inl c_45 | exact Or.inr (Or.inl c_50) | exact Or.inr (Or.inr c_56)))))
          · refine E_iload_n dX11_node_48 rfl ?_
            refine E_iconst (v := 4) dX11_node_49 rfl ?_
            refine E_icmp_eq 59 dX11_node_50 (by decide) (fun c_50 => ?_) (fun c_50 => ?_)
            · refine E_iconst (v := 1) dX11_node_59 rfl ?_
              refine E_goto 64 dX11_node_60 (by decide) ?_
              refine E_istore dX11_node_64 (by decide) rfl ?_
              refine E_iload_n dX11_node_66 rfl ?_
              refine E_iconst (v := 1) dX11_node_67 rfl ?_
              refine E_icmp_ne 87 dX11_node_68 (by decide) (fun c_68 => ?_) (fun c_68 => ?_)
              · refine E_iload dX11_node_87 rfl ?_
                refine E_if_eq 103 dX11_node_89 (by decide) (fun c_89 => ?_) (fun c_89 => ?_)
                · exact absurd c_89 (by decide)
                · refine E_iload_n dX11_node_92 rfl ?_
                  refine E_iconst (v := 0) dX11_node_93 rfl ?_
                  refine E_iconst (v := 4) dX11_node_94 rfl ?_
                  refine E_S3 dX11_node_95 cs_X11_120 (Nat.le_of_ble_eq_true rfl) (Nat.le_of_ble_eq_true rfl) (c_isIn _ v 0 4) (by decide) (Nat.zero_le _) (Nat.zero_le _) ?_
                  refine E_if_ne 103 dX11_node_98 (by decide) (fun c_98 => ?_) (fun c_98 => ?_)
                  · have hlt : n < 60 := by
                      rcases Nat.lt_or_ge n 60 with h | h
                      · exact h
                      · exact absurd (by rw [hF, show n = 60 by omega]; rfl) c_11
                    have hok : nodeOK z g k v := ⟨c_11, b2i_ne c_19, c_28, b2i_ne c_38, by first | (rw [if_pos c_68]; first | exact Or.inl (b2i_ne c_75) | exact Or.inr c_81) | (rw [if_neg c_68]; first | exact fun _ => b2i_ne c_98 | exact fun h => absurd h (fun h => h.elim c_45 (fun h => h.elim c_50 c_56)))⟩
                    have hin : vp_in ((stF z 39 0 0).F 39 5) 60 := vp_in_iff.mpr ⟨by show 0 ≤ (z.F 39 5).toInt; omega, by show (z.F 39 5).toInt < _; omega⟩
                    refine E_aload_n dX11_node_103 rfl ?_
                    refine E_iload_n dX11_node_104 rfl ?_
                    refine E_iload_n dX11_node_105 rfl ?_
                    refine E_iload dX11_node_106 rfl ?_
                    refine E_if_eq 115 dX11_node_108 (by decide) (fun c_108 => ?_) (fun c_108 => ?_)
                    · exact absurd c_108 (by decide)
                    · refine E_iload_n dX11_node_111 rfl ?_
                      refine E_goto 116 dX11_node_112 (by decide) ?_
                      refine E_V3 dX11_node_116 cv_X11_127 (by decide) (hg_39 _) rfl rfl (Nat.le_of_ble_eq_true rfl) (Nat.le_of_ble_eq_true rfl) (c_adds (stF z 39 0 0) hin g k _) (by decide) (Nat.zero_le _) (Nat.zero_le _) ?_
                      refine E_pop dX11_node_119 rfl ?_
                      refine E_aload_n dX11_node_120 rfl ?_
                      refine E_V0 dX11_node_121 cv_X11_95 (by decide) (hg_39 _) rfl rfl (Nat.le_of_ble_eq_true rfl) (Nat.le_of_ble_eq_true rfl) (c_looks (n := n + 1) (by omega) (by omega) _ (by show z.F 39 5 + 1 = nI (n + 1); rw [hF, nI_1]) (by exact inOK_add hlt hF hI (b2i_ne c_19))) (by decide) (Nat.zero_le _) (Nat.zero_le _) ?_
                      refine E_aload_n dX11_node_124 rfl ?_
                      refine E_iconst (v := 0) dX11_node_125 rfl ?_
                      refine E_V1 dX11_node_126 cv_X11_131 (by decide) (hg_39 _) rfl rfl (Nat.le_of_ble_eq_true rfl) (Nat.le_of_ble_eq_true rfl) (c_comes _ 0) (by decide) (Nat.zero_le _) (Nat.zero_le _) ?_
                      refine E_aload_n dX11_node_129 rfl ?_
                      refine E_getf 5 dX11_node_130 fl_X11_22 (by decide) (hg_39 _) rfl ?_
                      refine E_iconst (v := 1) dX11_node_133 rfl ?_
                      refine E_isub dX11_node_134 ?_
                      exact E_iret dX11_node_135 rfl rfl ⟨by rw [if_pos hok]; show some (Value.int ((zlk (n + 1) (zad (stF z 39 0 0) g k _)).F 39 5 - 1)) = _; rw [F_zlk]; show some (Value.int (z.F 39 5 + 1 - 1)) = _; rw [i32_ac], by rw [if_pos hok]; first | rw [if_pos (show hasV k from Or.inl c_45)]; rfl | rw [if_pos (show hasV k from Or.inr (Or.inl c_50))]; rfl | rw [if_pos (show hasV k from Or.inr (Or.inr c_56))]; rfl | rw [if_neg (show ¬ hasV k from fun h => h.elim c_45 (fun h => h.elim c_50 c_56))]; rfl⟩
                  · refine E_iconst (v := (-1)) dX11_node_101 rfl ?_
                    exact E_iret dX11_node_102 rfl rfl (by first | exact hno True (fun h => by have h9 := h.2.2.2.2; rw [if_pos c_68] at h9; exact h9.elim (b2i_e0 c_75) c_81) | exact hno True (fun h => by have h9 := h.2.2.2.2; rw [if_neg c_68] at h9; exact b2i_e0 c_98 (h9 (by first | exact Or.inl c_45 | exact Or.inr (Or.inl c_50) | exact Or.inr (Or.inr c_56)))))
              · refine E_iload_n dX11_node_71 rfl ?_
                refine E_S1 dX11_node_72 cs_X11_124 (Nat.le_of_ble_eq_true rfl) (Nat.le_of_ble_eq_true rfl) (c_isSmall _ v) (by decide) (Nat.zero_le _) (Nat.zero_le _) ?_
                refine E_if_ne 103 dX11_node_75 (by decide) (fun c_75 => ?_) (fun c_75 => ?_)
                · have hlt : n < 60 := by
                    rcases Nat.lt_or_ge n 60 with h | h
                    · exact h
                    · exact absurd (by rw [hF, show n = 60 by omega]; rfl) c_11
                  have hok : nodeOK z g k v := ⟨c_11, b2i_ne c_19, c_28, b2i_ne c_38, by first | (rw [if_pos c_68]; first | exact Or.inl (b2i_ne c_75) | exact Or.inr c_81) | (rw [if_neg c_68]; first | exact fun _ => b2i_ne c_98 | exact fun h => absurd h (fun h => h.elim c_45 (fun h => h.elim c_50 c_56)))⟩
                  have hin : vp_in ((stF z 39 0 0).F 39 5) 60 := vp_in_iff.mpr ⟨by show 0 ≤ (z.F 39 5).toInt; omega, by show (z.F 39 5).toInt < _; omega⟩
                  refine E_aload_n dX11_node_103 rfl ?_
                  refine E_iload_n dX11_node_104 rfl ?_
                  refine E_iload_n dX11_node_105 rfl ?_
                  refine E_iload dX11_node_106 rfl ?_
                  refine E_if_eq 115 dX11_node_108 (by decide) (fun c_108 => ?_) (fun c_108 => ?_)
                  · exact absurd c_108 (by decide)
                  · refine E_iload_n dX11_node_111 rfl ?_
                    refine E_goto 116 dX11_node_112 (by decide) ?_
                    refine E_V3 dX11_node_116 cv_X11_127 (by decide) (hg_39 _) rfl rfl (Nat.le_of_ble_eq_true rfl) (Nat.le_of_ble_eq_true rfl) (c_adds (stF z 39 0 0) hin g k _) (by decide) (Nat.zero_le _) (Nat.zero_le _) ?_
                    refine E_pop dX11_node_119 rfl ?_
                    refine E_aload_n dX11_node_120 rfl ?_
                    refine E_V0 dX11_node_121 cv_X11_95 (by decide) (hg_39 _) rfl rfl (Nat.le_of_ble_eq_true rfl) (Nat.le_of_ble_eq_true rfl) (c_looks (n := n + 1) (by omega) (by omega) _ (by show z.F 39 5 + 1 = nI (n + 1); rw [hF, nI_1]) (by exact inOK_add hlt hF hI (b2i_ne c_19))) (by decide) (Nat.zero_le _) (Nat.zero_le _) ?_
                    refine E_aload_n dX11_node_124 rfl ?_
                    refine E_iconst (v := 0) dX11_node_125 rfl ?_
                    refine E_V1 dX11_node_126 cv_X11_131 (by decide) (hg_39 _) rfl rfl (Nat.le_of_ble_eq_true rfl) (Nat.le_of_ble_eq_true rfl) (c_comes _ 0) (by decide) (Nat.zero_le _) (Nat.zero_le _) ?_
                    refine E_aload_n dX11_node_129 rfl ?_
                    refine E_getf 5 dX11_node_130 fl_X11_22 (by decide) (hg_39 _) rfl ?_
                    refine E_iconst (v := 1) dX11_node_133 rfl ?_
                    refine E_isub dX11_node_134 ?_
                    exact E_iret dX11_node_135 rfl rfl ⟨by rw [if_pos hok]; show some (Value.int ((zlk (n + 1) (zad (stF z 39 0 0) g k _)).F 39 5 - 1)) = _; rw [F_zlk]; show some (Value.int (z.F 39 5 + 1 - 1)) = _; rw [i32_ac], by rw [if_pos hok]; first | rw [if_pos (show hasV k from Or.inl c_45)]; rfl | rw [if_pos (show hasV k from Or.inr (Or.inl c_50))]; rfl | rw [if_pos (show hasV k from Or.inr (Or.inr c_56))]; rfl | rw [if_neg (show ¬ hasV k from fun h => h.elim c_45 (fun h => h.elim c_50 c_56))]; rfl⟩
                · refine E_iload_n dX11_node_78 rfl ?_
                  refine E_bipush (v := 32) dX11_node_79 rfl ?_
                  refine E_icmp_eq 103 dX11_node_81 (by decide) (fun c_81 => ?_) (fun c_81 => ?_)
                  · have hlt : n < 60 := by
                      rcases Nat.lt_or_ge n 60 with h | h
                      · exact h
                      · exact absurd (by rw [hF, show n = 60 by omega]; rfl) c_11
                    have hok : nodeOK z g k v := ⟨c_11, b2i_ne c_19, c_28, b2i_ne c_38, by first | (rw [if_pos c_68]; first | exact Or.inl (b2i_ne c_75) | exact Or.inr c_81) | (rw [if_neg c_68]; first | exact fun _ => b2i_ne c_98 | exact fun h => absurd h (fun h => h.elim c_45 (fun h => h.elim c_50 c_56)))⟩
                    have hin : vp_in ((stF z 39 0 0).F 39 5) 60 := vp_in_iff.mpr ⟨by show 0 ≤ (z.F 39 5).toInt; omega, by show (z.F 39 5).toInt < _; omega⟩
                    refine E_aload_n dX11_node_103 rfl ?_
                    refine E_iload_n dX11_node_104 rfl ?_
                    refine E_iload_n dX11_node_105 rfl ?_
                    refine E_iload dX11_node_106 rfl ?_
                    refine E_if_eq 115 dX11_node_108 (by decide) (fun c_108 => ?_) (fun c_108 => ?_)
                    · exact absurd c_108 (by decide)
                    · refine E_iload_n dX11_node_111 rfl ?_
                      refine E_goto 116 dX11_node_112 (by decide) ?_
                      refine E_V3 dX11_node_116 cv_X11_127 (by decide) (hg_39 _) rfl rfl (Nat.le_of_ble_eq_true rfl) (Nat.le_of_ble_eq_true rfl) (c_adds (stF z 39 0 0) hin g k _) (by decide) (Nat.zero_le _) (Nat.zero_le _) ?_
                      refine E_pop dX11_node_119 rfl ?_
                      refine E_aload_n dX11_node_120 rfl ?_
                      refine E_V0 dX11_node_121 cv_X11_95 (by decide) (hg_39 _) rfl rfl (Nat.le_of_ble_eq_true rfl) (Nat.le_of_ble_eq_true rfl) (c_looks (n := n + 1) (by omega) (by omega) _ (by show z.F 39 5 + 1 = nI (n + 1); rw [hF, nI_1]) (by exact inOK_add hlt hF hI (b2i_ne c_19))) (by decide) (Nat.zero_le _) (Nat.zero_le _) ?_
                      refine E_aload_n dX11_node_124 rfl ?_
                      refine E_iconst (v := 0) dX11_node_125 rfl ?_
                      refine E_V1 dX11_node_126 cv_X11_131 (by decide) (hg_39 _) rfl rfl (Nat.le_of_ble_eq_true rfl) (Nat.le_of_ble_eq_true rfl) (c_comes _ 0) (by decide) (Nat.zero_le _) (Nat.zero_le _) ?_
                      refine E_aload_n dX11_node_129 rfl ?_
                      refine E_getf 5 dX11_node_130 fl_X11_22 (by decide) (hg_39 _) rfl ?_
                      refine E_iconst (v := 1) dX11_node_133 rfl ?_
                      refine E_isub dX11_node_134 ?_
                      exact E_iret dX11_node_135 rfl rfl ⟨by rw [if_pos hok]; show some (Value.int ((zlk (n + 1) (zad (stF z 39 0 0) g k _)).F 39 5 - 1)) = _; rw [F_zlk]; show some (Value.int (z.F 39 5 + 1 - 1)) = _; rw [i32_ac], by rw [if_pos hok]; first | rw [if_pos (show hasV k from Or.inl c_45)]; rfl | rw [if_pos (show hasV k from Or.inr (Or.inl c_50))]; rfl | rw [if_pos (show hasV k from Or.inr (Or.inr c_56))]; rfl | rw [if_neg (show ¬ hasV k from fun h => h.elim c_45 (fun h => h.elim c_50 c_56))]; rfl⟩
                  · refine E_goto 101 dX11_node_84 (by decide) ?_
                    refine E_iconst (v := (-1)) dX11_node_101 rfl ?_
                    exact E_iret dX11_node_102 rfl rfl (by first | exact hno True (fun h => by have h9 := h.2.2.2.2; rw [if_pos c_68] at h9; exact h9.elim (b2i_e0 c_75) c_81) | exact hno True (fun h => by have h9 := h.2.2.2.2; rw [if_neg c_68] at h9; exact b2i_e0 c_98 (h9 (by first | exact Or.inl c_45 | exact Or.inr (Or.inl c_50) | exact Or.inr (Or.inr c_56)))))
            · refine E_iload_n dX11_node_53 rfl ?_
              refine E_bipush (v := 6) dX11_node_54 rfl ?_
              refine E_icmp_ne 63 dX11_node_56 (by decide) (fun c_56 => ?_) (fun c_56 => ?_)
              · refine E_iconst (v := 0) dX11_node_63 rfl ?_
                refine E_istore dX11_node_64 (by decide) rfl ?_
                refine E_iload_n dX11_node_66 rfl ?_
                refine E_iconst (v := 1) dX11_node_67 rfl ?_
                refine E_icmp_ne 87 dX11_node_68 (by decide) (fun c_68 => ?_) (fun c_68 => ?_)
                · refine E_iload dX11_node_87 rfl ?_
                  refine E_if_eq 103 dX11_node_89 (by decide) (fun c_89 => ?_) (fun c_89 => ?_)
                  · have hlt : n < 60 := by
                      rcases Nat.lt_or_ge n 60 with h | h
                      · exact h
                      · exact absurd (by rw [hF, show n = 60 by omega]; rfl) c_11
                    have hok : nodeOK z g k v := ⟨c_11, b2i_ne c_19, c_28, b2i_ne c_38, by first | (rw [if_pos c_68]; first | exact Or.inl (b2i_ne c_75) | exact Or.inr c_81) | (rw [if_neg c_68]; first | exact fun _ => b2i_ne c_98 | exact fun h => absurd h (fun h => h.elim c_45 (fun h => h.elim c_50 c_56)))⟩
                    have hin : vp_in ((stF z 39 0 0).F 39 5) 60 := vp_in_iff.mpr ⟨by show 0 ≤ (z.F 39 5).toInt; omega, by show (z.F 39 5).toInt < _; omega⟩
                    refine E_aload_n dX11_node_103 rfl ?_
                    refine E_iload_n dX11_node_104 rfl ?_
                    refine E_iload_n dX11_node_105 rfl ?_
                    refine E_iload dX11_node_106 rfl ?_
                    refine E_if_eq 115 dX11_node_108 (by decide) (fun c_108 => ?_) (fun c_108 => ?_)
                    · refine E_iconst (v := (-1)) dX11_node_115 rfl ?_
                      refine E_V3 dX11_node_116 cv_X11_127 (by decide) (hg_39 _) rfl rfl (Nat.le_of_ble_eq_true rfl) (Nat.le_of_ble_eq_true rfl) (c_adds (stF z 39 0 0) hin g k _) (by decide) (Nat.zero_le _) (Nat.zero_le _) ?_
                      refine E_pop dX11_node_119 rfl ?_
                      refine E_aload_n dX11_node_120 rfl ?_
                      refine E_V0 dX11_node_121 cv_X11_95 (by decide) (hg_39 _) rfl rfl (Nat.le_of_ble_eq_true rfl) (Nat.le_of_ble_eq_true rfl) (c_looks (n := n + 1) (by omega) (by omega) _ (by show z.F 39 5 + 1 = nI (n + 1); rw [hF, nI_1]) (by exact inOK_add hlt hF hI (b2i_ne c_19))) (by decide) (Nat.zero_le _) (Nat.zero_le _) ?_
                      refine E_aload_n dX11_node_124 rfl ?_
                      refine E_iconst (v := 0) dX11_node_125 rfl ?_
                      refine E_V1 dX11_node_126 cv_X11_131 (by decide) (hg_39 _) rfl rfl (Nat.le_of_ble_eq_true rfl) (Nat.le_of_ble_eq_true rfl) (c_comes _ 0) (by decide) (Nat.zero_le _) (Nat.zero_le _) ?_
                      refine E_aload_n dX11_node_129 rfl ?_
                      refine E_getf 5 dX11_node_130 fl_X11_22 (by decide) (hg_39 _) rfl ?_
                      refine E_iconst (v := 1) dX11_node_133 rfl ?_
                      refine E_isub dX11_node_134 ?_
                      exact E_iret dX11_node_135 rfl rfl ⟨by rw [if_pos hok]; show some (Value.int ((zlk (n + 1) (zad (stF z 39 0 0) g k _)).F 39 5 - 1)) = _; rw [F_zlk]; show some (Value.int (z.F 39 5 + 1 - 1)) = _; rw [i32_ac], by rw [if_pos hok]; first | rw [if_pos (show hasV k from Or.inl c_45)]; rfl | rw [if_pos (show hasV k from Or.inr (Or.inl c_50))]; rfl | rw [if_pos (show hasV k from Or.inr (Or.inr c_56))]; rfl | rw [if_neg (show ¬ hasV k from fun h => h.elim c_45 (fun h => h.elim c_50 c_56))]; rfl⟩
                    · exact absurd c_108 (by decide)
                  · exact absurd c_89 (by decide)
                · refine E_iload_n dX11_node_71 rfl ?_
                  refine E_S1 dX11_node_72 cs_X11_124 (Nat.le_of_ble_eq_true rfl) (Nat.le_of_ble_eq_true rfl) (c_isSmall _ v) (by decide) (Nat.zero_le _) (Nat.zero_le _) ?_
                  refine E_if_ne 103 dX11_node_75 (by decide) (fun c_75 => ?_) (fun c_75 => ?_)
                  · have hlt : n < 60 := by
                      rcases Nat.lt_or_ge n 60 with h | h
                      · exact h
                      · exact absurd (by rw [hF, show n = 60 by omega]; rfl) c_11
                    have hok : nodeOK z g k v := ⟨c_11, b2i_ne c_19, c_28, b2i_ne c_38, by first | (rw [if_pos c_68]; first | exact Or.inl (b2i_ne c_75) | exact Or.inr c_81) | (rw [if_neg c_68]; first | exact fun _ => b2i_ne c_98 | exact fun h => absurd h (fun h => h.elim c_45 (fun h => h.elim c_50 c_56)))⟩
                    have hin : vp_in ((stF z 39 0 0).F 39 5) 60 := vp_in_iff.mpr ⟨by show 0 ≤ (z.F 39 5).toInt; omega, by show (z.F 39 5).toInt < _; omega⟩
                    refine E_aload_n dX11_node_103 rfl ?_
                    refine E_iload_n dX11_node_104 rfl ?_
                    refine E_iload_n dX11_node_105 rfl ?_
                    refine E_iload dX11_node_106 rfl ?_
                    refine E_if_eq 115 dX11_node_108 (by decide) (fun c_108 => ?_) (fun c_108 => ?_)
                    · refine E_iconst (v := (-1)) dX11_node_115 rfl ?_
                      refine E_V3 dX11_node_116 cv_X11_127 (by decide) (hg_39 _) rfl rfl (Nat.le_of_ble_eq_true rfl) (Nat.le_of_ble_eq_true rfl) (c_adds (stF z 39 0 0) hin g k _) (by decide) (Nat.zero_le _) (Nat.zero_le _) ?_
                      refine E_pop dX11_node_119 rfl ?_
                      refine E_aload_n dX11_node_120 rfl ?_
                      refine E_V0 dX11_node_121 cv_X11_95 (by decide) (hg_39 _) rfl rfl (Nat.le_of_ble_eq_true rfl) (Nat.le_of_ble_eq_true rfl) (c_looks (n := n + 1) (by omega) (by omega) _ (by show z.F 39 5 + 1 = nI (n + 1); rw [hF, nI_1]) (by exact inOK_add hlt hF hI (b2i_ne c_19))) (by decide) (Nat.zero_le _) (Nat.zero_le _) ?_
                      refine E_aload_n dX11_node_124 rfl ?_
                      refine E_iconst (v := 0) dX11_node_125 rfl ?_
                      refine E_V1 dX11_node_126 cv_X11_131 (by decide) (hg_39 _) rfl rfl (Nat.le_of_ble_eq_true rfl) (Nat.le_of_ble_eq_true rfl) (c_comes _ 0) (by decide) (Nat.zero_le _) (Nat.zero_le _) ?_
                      refine E_aload_n dX11_node_129 rfl ?_
                      refine E_getf 5 dX11_node_130 fl_X11_22 (by decide) (hg_39 _) rfl ?_
                      refine E_iconst (v := 1) dX11_node_133 rfl ?_
                      refine E_isub dX11_node_134 ?_
                      exact E_iret dX11_node_135 rfl rfl ⟨by rw [if_pos hok]; show some (Value.int ((zlk (n + 1) (zad (stF z 39 0 0) g k _)).F 39 5 - 1)) = _; rw [F_zlk]; show some (Value.int (z.F 39 5 + 1 - 1)) = _; rw [i32_ac], by rw [if_pos hok]; first | rw [if_pos (show hasV k from Or.inl c_45)]; rfl | rw [if_pos (show hasV k from Or.inr (Or.inl c_50))]; rfl | rw [if_pos (show hasV k from Or.inr (Or.inr c_56))]; rfl | rw [if_neg (show ¬ hasV k from fun h => h.elim c_45 (fun h => h.elim c_50 c_56))]; rfl⟩
                    · exact absurd c_108 (by decide)
                  · refine E_iload_n dX11_node_78 rfl ?_
                    refine E_bipush (v := 32) dX11_node_79 rfl ?_
                    refine E_icmp_eq 103 dX11_node_81 (by decide) (fun c_81 => ?_) (fun c_81 => ?_)
                    · have hlt : n < 60 := by
                        rcases Nat.lt_or_ge n 60 with h | h
                        · exact h
                        · exact absurd (by rw [hF, show n = 60 by omega]; rfl) c_11
                      have hok : nodeOK z g k v := ⟨c_11, b2i_ne c_19, c_28, b2i_ne c_38, by first | (rw [if_pos c_68]; first | exact Or.inl (b2i_ne c_75) | exact Or.inr c_81) | (rw [if_neg c_68]; first | exact fun _ => b2i_ne c_98 | exact fun h => absurd h (fun h => h.elim c_45 (fun h => h.elim c_50 c_56)))⟩
                      have hin : vp_in ((stF z 39 0 0).F 39 5) 60 := vp_in_iff.mpr ⟨by show 0 ≤ (z.F 39 5).toInt; omega, by show (z.F 39 5).toInt < _; omega⟩
                      refine E_aload_n dX11_node_103 rfl ?_
                      refine E_iload_n dX11_node_104 rfl ?_
                      refine E_iload_n dX11_node_105 rfl ?_
                      refine E_iload dX11_node_106 rfl ?_
                      refine E_if_eq 115 dX11_node_108 (by decide) (fun c_108 => ?_) (fun c_108 => ?_)
                      · refine E_iconst (v := (-1)) dX11_node_115 rfl ?_
                        refine E_V3 dX11_node_116 cv_X11_127 (by decide) (hg_39 _) rfl rfl (Nat.le_of_ble_eq_true rfl) (Nat.le_of_ble_eq_true rfl) (c_adds (stF z 39 0 0) hin g k _) (by decide) (Nat.zero_le _) (Nat.zero_le _) ?_
                        refine E_pop dX11_node_119 rfl ?_
                        refine E_aload_n dX11_node_120 rfl ?_
                        refine E_V0 dX11_node_121 cv_X11_95 (by decide) (hg_39 _) rfl rfl (Nat.le_of_ble_eq_true rfl) (Nat.le_of_ble_eq_true rfl) (c_looks (n := n + 1) (by omega) (by omega) _ (by show z.F 39 5 + 1 = nI (n + 1); rw [hF, nI_1]) (by exact inOK_add hlt hF hI (b2i_ne c_19))) (by decide) (Nat.zero_le _) (Nat.zero_le _) ?_
                        refine E_aload_n dX11_node_124 rfl ?_
                        refine E_iconst (v := 0) dX11_node_125 rfl ?_
                        refine E_V1 dX11_node_126 cv_X11_131 (by decide) (hg_39 _) rfl rfl (Nat.le_of_ble_eq_true rfl) (Nat.le_of_ble_eq_true rfl) (c_comes _ 0) (by decide) (Nat.zero_le _) (Nat.zero_le _) ?_
                        refine E_aload_n dX11_node_129 rfl ?_
                        refine E_getf 5 dX11_node_130 fl_X11_22 (by decide) (hg_39 _) rfl ?_
                        refine E_iconst (v := 1) dX11_node_133 rfl ?_
                        refine E_isub dX11_node_134 ?_
                        exact E_iret dX11_node_135 rfl rfl ⟨by rw [if_pos hok]; show some (Value.int ((zlk (n + 1) (zad (stF z 39 0 0) g k _)).F 39 5 - 1)) = _; rw [F_zlk]; show some (Value.int (z.F 39 5 + 1 - 1)) = _; rw [i32_ac], by rw [if_pos hok]; first | rw [if_pos (show hasV k from Or.inl c_45)]; rfl | rw [if_pos (show hasV k from Or.inr (Or.inl c_50))]; rfl | rw [if_pos (show hasV k from Or.inr (Or.inr c_56))]; rfl | rw [if_neg (show ¬ hasV k from fun h => h.elim c_45 (fun h => h.elim c_50 c_56))]; rfl⟩
                      · exact absurd c_108 (by decide)
                    · refine E_goto 101 dX11_node_84 (by decide) ?_
                      refine E_iconst (v := (-1)) dX11_node_101 rfl ?_
                      exact E_iret dX11_node_102 rfl rfl (by first | exact hno True (fun h => by have h9 := h.2.2.2.2; rw [if_pos c_68] at h9; exact h9.elim (b2i_e0 c_75) c_81) | exact hno True (fun h => by have h9 := h.2.2.2.2; rw [if_neg c_68] at h9; exact b2i_e0 c_98 (h9 (by first | exact Or.inl c_45 | exact Or.inr (Or.inl c_50) | exact Or.inr (Or.inr c_56)))))
              · refine E_iconst (v := 1) dX11_node_59 rfl ?_
                refine E_goto 64 dX11_node_60 (by decide) ?_
                refine E_istore dX11_node_64 (by decide) rfl ?_
                refine E_iload_n dX11_node_66 rfl ?_
                refine E_iconst (v := 1) dX11_node_67 rfl ?_
                refine E_icmp_ne 87 dX11_node_68 (by decide) (fun c_68 => ?_) (fun c_68 => ?_)
                · refine E_iload dX11_node_87 rfl ?_
                  refine E_if_eq 103 dX11_node_89 (by decide) (fun c_89 => ?_) (fun c_89 => ?_)
                  · exact absurd c_89 (by decide)
                  · refine E_iload_n dX11_node_92 rfl ?_
                    refine E_iconst (v := 0) dX11_node_93 rfl ?_
                    refine E_iconst (v := 4) dX11_node_94 rfl ?_
                    refine E_S3 dX11_node_95 cs_X11_120 (Nat.le_of_ble_eq_true rfl) (Nat.le_of_ble_eq_true rfl) (c_isIn _ v 0 4) (by decide) (Nat.zero_le _) (Nat.zero_le _) ?_
                    refine E_if_ne 103 dX11_node_98 (by decide) (fun c_98 => ?_) (fun c_98 => ?_)
                    · have hlt : n < 60 := by
                        rcases Nat.lt_or_ge n 60 with h | h
                        · exact h
                        · exact absurd (by rw [hF, show n = 60 by omega]; rfl) c_11
                      have hok : nodeOK z g k v := ⟨c_11, b2i_ne c_19, c_28, b2i_ne c_38, by first | (rw [if_pos c_68]; first | exact Or.inl (b2i_ne c_75) | exact Or.inr c_81) | (rw [if_neg c_68]; first | exact fun _ => b2i_ne c_98 | exact fun h => absurd h (fun h => h.elim c_45 (fun h => h.elim c_50 c_56)))⟩
                      have hin : vp_in ((stF z 39 0 0).F 39 5) 60 := vp_in_iff.mpr ⟨by show 0 ≤ (z.F 39 5).toInt; omega, by show (z.F 39 5).toInt < _; omega⟩
                      refine E_aload_n dX11_node_103 rfl ?_
                      refine E_iload_n dX11_node_104 rfl ?_
                      refine E_iload_n dX11_node_105 rfl ?_
                      refine E_iload dX11_node_106 rfl ?_
                      refine E_if_eq 115 dX11_node_108 (by decide) (fun c_108 => ?_) (fun c_108 => ?_)
                      · exact absurd c_108 (by decide)
                      · refine E_iload_n dX11_node_111 rfl ?_
                        refine E_goto 116 dX11_node_112 (by decide) ?_
                        refine E_V3 dX11_node_116 cv_X11_127 (by decide) (hg_39 _) rfl rfl (Nat.le_of_ble_eq_true rfl) (Nat.le_of_ble_eq_true rfl) (c_adds (stF z 39 0 0) hin g k _) (by decide) (Nat.zero_le _) (Nat.zero_le _) ?_
                        refine E_pop dX11_node_119 rfl ?_
                        refine E_aload_n dX11_node_120 rfl ?_
                        refine E_V0 dX11_node_121 cv_X11_95 (by decide) (hg_39 _) rfl rfl (Nat.le_of_ble_eq_true rfl) (Nat.le_of_ble_eq_true rfl) (c_looks (n := n + 1) (by omega) (by omega) _ (by show z.F 39 5 + 1 = nI (n + 1); rw [hF, nI_1]) (by exact inOK_add hlt hF hI (b2i_ne c_19))) (by decide) (Nat.zero_le _) (Nat.zero_le _) ?_
                        refine E_aload_n dX11_node_124 rfl ?_
                        refine E_iconst (v := 0) dX11_node_125 rfl ?_
                        refine E_V1 dX11_node_126 cv_X11_131 (by decide) (hg_39 _) rfl rfl (Nat.le_of_ble_eq_true rfl) (Nat.le_of_ble_eq_true rfl) (c_comes _ 0) (by decide) (Nat.zero_le _) (Nat.zero_le _) ?_
                        refine E_aload_n dX11_node_129 rfl ?_
                        refine E_getf 5 dX11_node_130 fl_X11_22 (by decide) (hg_39 _) rfl ?_
                        refine E_iconst (v := 1) dX11_node_133 rfl ?_
                        refine E_isub dX11_node_134 ?_
                        exact E_iret dX11_node_135 rfl rfl ⟨by rw [if_pos hok]; show some (Value.int ((zlk (n + 1) (zad (stF z 39 0 0) g k _)).F 39 5 - 1)) = _; rw [F_zlk]; show some (Value.int (z.F 39 5 + 1 - 1)) = _; rw [i32_ac], by rw [if_pos hok]; first | rw [if_pos (show hasV k from Or.inl c_45)]; rfl | rw [if_pos (show hasV k from Or.inr (Or.inl c_50))]; rfl | rw [if_pos (show hasV k from Or.inr (Or.inr c_56))]; rfl | rw [if_neg (show ¬ hasV k from fun h => h.elim c_45 (fun h => h.elim c_50 c_56))]; rfl⟩
                    · refine E_iconst (v := (-1)) dX11_node_101 rfl ?_
                      exact E_iret dX11_node_102 rfl rfl (by first | exact hno True (fun h => by have h9 := h.2.2.2.2; rw [if_pos c_68] at h9; exact h9.elim (b2i_e0 c_75) c_81) | exact hno True (fun h => by have h9 := h.2.2.2.2; rw [if_neg c_68] at h9; exact b2i_e0 c_98 (h9 (by first | exact Or.inl c_45 | exact Or.inr (Or.inl c_50) | exact Or.inr (Or.inr c_56)))))
                · refine E_iload_n dX11_node_71 rfl ?_
                  refine E_S1 dX11_node_72 cs_X11_124 (Nat.le_of_ble_eq_true rfl) (Nat.le_of_ble_eq_true rfl) (c_isSmall _ v) (by decide) (Nat.zero_le _) (Nat.zero_le _) ?_
                  refine E_if_ne 103 dX11_node_75 (by decide) (fun c_75 => ?_) (fun c_75 => ?_)
                  · have hlt : n < 60 := by
                      rcases Nat.lt_or_ge n 60 with h | h
                      · exact h
                      · exact absurd (by rw [hF, show n = 60 by omega]; rfl) c_11
                    have hok : nodeOK z g k v := ⟨c_11, b2i_ne c_19, c_28, b2i_ne c_38, by first | (rw [if_pos c_68]; first | exact Or.inl (b2i_ne c_75) | exact Or.inr c_81) | (rw [if_neg c_68]; first | exact fun _ => b2i_ne c_98 | exact fun h => absurd h (fun h => h.elim c_45 (fun h => h.elim c_50 c_56)))⟩
                    have hin : vp_in ((stF z 39 0 0).F 39 5) 60 := vp_in_iff.mpr ⟨by show 0 ≤ (z.F 39 5).toInt; omega, by show (z.F 39 5).toInt < _; omega⟩
                    refine E_aload_n dX11_node_103 rfl ?_
                    refine E_iload_n dX11_node_104 rfl ?_
                    refine E_iload_n dX11_node_105 rfl ?_
                    refine E_iload dX11_node_106 rfl ?_
                    refine E_if_eq 115 dX11_node_108 (by decide) (fun c_108 => ?_) (fun c_108 => ?_)
                    · exact absurd c_108 (by decide)
                    · refine E_iload_n dX11_node_111 rfl ?_
                      refine E_goto 116 dX11_node_112 (by decide) ?_
                      refine E_V3 dX11_node_116 cv_X11_127 (by decide) (hg_39 _) rfl rfl (Nat.le_of_ble_eq_true rfl) (Nat.le_of_ble_eq_true rfl) (c_adds (stF z 39 0 0) hin g k _) (by decide) (Nat.zero_le _) (Nat.zero_le _) ?_
                      refine E_pop dX11_node_119 rfl ?_
                      refine E_aload_n dX11_node_120 rfl ?_
                      refine E_V0 dX11_node_121 cv_X11_95 (by decide) (hg_39 _) rfl rfl (Nat.le_of_ble_eq_true rfl) (Nat.le_of_ble_eq_true rfl) (c_looks (n := n + 1) (by omega) (by omega) _ (by show z.F 39 5 + 1 = nI (n + 1); rw [hF, nI_1]) (by exact inOK_add hlt hF hI (b2i_ne c_19))) (by decide) (Nat.zero_le _) (Nat.zero_le _) ?_
                      refine E_aload_n dX11_node_124 rfl ?_
                      refine E_iconst (v := 0) dX11_node_125 rfl ?_
                      refine E_V1 dX11_node_126 cv_X11_131 (by decide) (hg_39 _) rfl rfl (Nat.le_of_ble_eq_true rfl) (Nat.le_of_ble_eq_true rfl) (c_comes _ 0) (by decide) (Nat.zero_le _) (Nat.zero_le _) ?_
                      refine E_aload_n dX11_node_129 rfl ?_
                      refine E_getf 5 dX11_node_130 fl_X11_22 (by decide) (hg_39 _) rfl ?_
                      refine E_iconst (v := 1) dX11_node_133 rfl ?_
                      refine E_isub dX11_node_134 ?_
                      exact E_iret dX11_node_135 rfl rfl ⟨by rw [if_pos hok]; show some (Value.int ((zlk (n + 1) (zad (stF z 39 0 0) g k _)).F 39 5 - 1)) = _; rw [F_zlk]; show some (Value.int (z.F 39 5 + 1 - 1)) = _; rw [i32_ac], by rw [if_pos hok]; first | rw [if_pos (show hasV k from Or.inl c_45)]; rfl | rw [if_pos (show hasV k from Or.inr (Or.inl c_50))]; rfl | rw [if_pos (show hasV k from Or.inr (Or.inr c_56))]; rfl | rw [if_neg (show ¬ hasV k from fun h => h.elim c_45 (fun h => h.elim c_50 c_56))]; rfl⟩
                  · refine E_iload_n dX11_node_78 rfl ?_
                    refine E_bipush (v := 32) dX11_node_79 rfl ?_
                    refine E_icmp_eq 103 dX11_node_81 (by decide) (fun c_81 => ?_) (fun c_81 => ?_)
                    · have hlt : n < 60 := by
                        rcases Nat.lt_or_ge n 60 with h | h
                        · exact h
                        · exact absurd (by rw [hF, show n = 60 by omega]; rfl) c_11
                      have hok : nodeOK z g k v := ⟨c_11, b2i_ne c_19, c_28, b2i_ne c_38, by first | (rw [if_pos c_68]; first | exact Or.inl (b2i_ne c_75) | exact Or.inr c_81) | (rw [if_neg c_68]; first | exact fun _ => b2i_ne c_98 | exact fun h => absurd h (fun h => h.elim c_45 (fun h => h.elim c_50 c_56)))⟩
                      have hin : vp_in ((stF z 39 0 0).F 39 5) 60 := vp_in_iff.mpr ⟨by show 0 ≤ (z.F 39 5).toInt; omega, by show (z.F 39 5).toInt < _; omega⟩
                      refine E_aload_n dX11_node_103 rfl ?_
                      refine E_iload_n dX11_node_104 rfl ?_
                      refine E_iload_n dX11_node_105 rfl ?_
                      refine E_iload dX11_node_106 rfl ?_
                      refine E_if_eq 115 dX11_node_108 (by decide) (fun c_108 => ?_) (fun c_108 => ?_)
                      · exact absurd c_108 (by decide)
                      · refine E_iload_n dX11_node_111 rfl ?_
                        refine E_goto 116 dX11_node_112 (by decide) ?_
                        refine E_V3 dX11_node_116 cv_X11_127 (by decide) (hg_39 _) rfl rfl (Nat.le_of_ble_eq_true rfl) (Nat.le_of_ble_eq_true rfl) (c_adds (stF z 39 0 0) hin g k _) (by decide) (Nat.zero_le _) (Nat.zero_le _) ?_
                        refine E_pop dX11_node_119 rfl ?_
                        refine E_aload_n dX11_node_120 rfl ?_
                        refine E_V0 dX11_node_121 cv_X11_95 (by decide) (hg_39 _) rfl rfl (Nat.le_of_ble_eq_true rfl) (Nat.le_of_ble_eq_true rfl) (c_looks (n := n + 1) (by omega) (by omega) _ (by show z.F 39 5 + 1 = nI (n + 1); rw [hF, nI_1]) (by exact inOK_add hlt hF hI (b2i_ne c_19))) (by decide) (Nat.zero_le _) (Nat.zero_le _) ?_
                        refine E_aload_n dX11_node_124 rfl ?_
                        refine E_iconst (v := 0) dX11_node_125 rfl ?_
                        refine E_V1 dX11_node_126 cv_X11_131 (by decide) (hg_39 _) rfl rfl (Nat.le_of_ble_eq_true rfl) (Nat.le_of_ble_eq_true rfl) (c_comes _ 0) (by decide) (Nat.zero_le _) (Nat.zero_le _) ?_
                        refine E_aload_n dX11_node_129 rfl ?_
                        refine E_getf 5 dX11_node_130 fl_X11_22 (by decide) (hg_39 _) rfl ?_
                        refine E_iconst (v := 1) dX11_node_133 rfl ?_
                        refine E_isub dX11_node_134 ?_
                        exact E_iret dX11_node_135 rfl rfl ⟨by rw [if_pos hok]; show some (Value.int ((zlk (n + 1) (zad (stF z 39 0 0) g k _)).F 39 5 - 1)) = _; rw [F_zlk]; show some (Value.int (z.F 39 5 + 1 - 1)) = _; rw [i32_ac], by rw [if_pos hok]; first | rw [if_pos (show hasV k from Or.inl c_45)]; rfl | rw [if_pos (show hasV k from Or.inr (Or.inl c_50))]; rfl | rw [if_pos (show hasV k from Or.inr (Or.inr c_56))]; rfl | rw [if_neg (show ¬ hasV k from fun h => h.elim c_45 (fun h => h.elim c_50 c_56))]; rfl⟩
                    · refine E_goto 101 dX11_node_84 (by decide) ?_
                      refine E_iconst (v := (-1)) dX11_node_101 rfl ?_
                      exact E_iret dX11_node_102 rfl rfl (by first | exact hno True (fun h => by have h9 := h.2.2.2.2; rw [if_pos c_68] at h9; exact h9.elim (b2i_e0 c_75) c_81) | exact hno True (fun h => by have h9 := h.2.2.2.2; rw [if_neg c_68] at h9; exact b2i_e0 c_98 (h9 (by first | exact Or.inl c_45 | exact Or.inr (Or.inl c_50) | exact Or.inr (Or.inr c_56)))))
        · refine E_iconst (v := (-1)) dX11_node_41 rfl ?_
          exact E_iret dX11_node_42 rfl rfl (by first | exact hno True (fun h => h.1 c_11) | exact hno True (fun h => b2i_e0 c_19 h.2.1) | exact hno True (fun h => c_28 h.2.2.1) | exact hno True (fun h => b2i_e0 c_38 h.2.2.2.1))
end
