section
-- ===== PART A: goes FIRST, ahead of the names: the tables' words, and 'selects' of the private methods out of them =====
/-- a private method of a class that the tables say can be made, by its rows of tables_1 -/
def lw_okq (q : MethodName × Nat) : Prop := (q.1.cls ≠ "java/lang/invoke/MethodHandle" ∧ q.1.cls ≠ "java/lang/invoke/VarHandle") ∧ Cond.instantiable q.1.cls q.2 ∈ tables_1 ∧ Cond.privateMethod q.1 ∈ tables_1 ∧ Cond.instanceMethod q.1 ∈ tables_1
theorem lw_p0 : lw_okq (⟨"OddChoir$ChantText", "formAt", "(I)Ljava/lang/String;"⟩, 2) := ⟨⟨by decide +kernel, by decide +kernel⟩, List.mem_of_getElem? (i := 90) (by decide +kernel), List.mem_of_getElem? (i := 219) (by decide +kernel), List.mem_of_getElem? (i := 220) (by decide +kernel)⟩
theorem lw_p1 : lw_okq (⟨"OddChoir$ChantText", "fits", "(Ljava/lang/String;II)Z"⟩, 2) := ⟨⟨by decide +kernel, by decide +kernel⟩, List.mem_of_getElem? (i := 90) (by decide +kernel), List.mem_of_getElem? (i := 244) (by decide +kernel), List.mem_of_getElem? (i := 245) (by decide +kernel)⟩
theorem lw_p2 : lw_okq (⟨"OddChoir$ChantText", "isTopHeight", "(I)Z"⟩, 2) := ⟨⟨by decide +kernel, by decide +kernel⟩, List.mem_of_getElem? (i := 90) (by decide +kernel), List.mem_of_getElem? (i := 289) (by decide +kernel), List.mem_of_getElem? (i := 290) (by decide +kernel)⟩
theorem lw_p3 : lw_okq (⟨"OddChoir$Choir", "higherBetween", "(IIII)I"⟩, 9) := ⟨⟨by decide +kernel, by decide +kernel⟩, List.mem_of_getElem? (i := 33) (by decide +kernel), List.mem_of_getElem? (i := 403) (by decide +kernel), List.mem_of_getElem? (i := 404) (by decide +kernel)⟩
theorem lw_p4 : lw_okq (⟨"OddChoir$Choir", "rowBehind", "(I)I"⟩, 9) := ⟨⟨by decide +kernel, by decide +kernel⟩, List.mem_of_getElem? (i := 33) (by decide +kernel), List.mem_of_getElem? (i := 408) (by decide +kernel), List.mem_of_getElem? (i := 409) (by decide +kernel)⟩
theorem lw_p5 : lw_okq (⟨"OddChoir", "ofAll", "(I)I"⟩, 8) := ⟨⟨by decide +kernel, by decide +kernel⟩, List.mem_of_getElem? (i := 25) (by decide +kernel), List.mem_of_getElem? (i := 417) (by decide +kernel), List.mem_of_getElem? (i := 418) (by decide +kernel)⟩
theorem lw_p6 : lw_okq (⟨"OddChoir", "ofRow", "(II)I"⟩, 8) := ⟨⟨by decide +kernel, by decide +kernel⟩, List.mem_of_getElem? (i := 25) (by decide +kernel), List.mem_of_getElem? (i := 441) (by decide +kernel), List.mem_of_getElem? (i := 442) (by decide +kernel)⟩
theorem lw_p7 : lw_okq (⟨"OddChoir$OrderSearch", "noteSinger", "(LOddChoir$Choir;II)V"⟩, 7) := ⟨⟨by decide +kernel, by decide +kernel⟩, List.mem_of_getElem? (i := 140) (by decide +kernel), List.mem_of_getElem? (i := 455) (by decide +kernel), List.mem_of_getElem? (i := 456) (by decide +kernel)⟩
theorem lw_p8 : lw_okq (⟨"OddChoir$OrderSearch", "choose", "(IIII)V"⟩, 7) := ⟨⟨by decide +kernel, by decide +kernel⟩, List.mem_of_getElem? (i := 140) (by decide +kernel), List.mem_of_getElem? (i := 467) (by decide +kernel), List.mem_of_getElem? (i := 468) (by decide +kernel)⟩
theorem lw_p9 : lw_okq (⟨"OddChoir$OrderSearch", "cannotBeBetter", "(II)Z"⟩, 7) := ⟨⟨by decide +kernel, by decide +kernel⟩, List.mem_of_getElem? (i := 140) (by decide +kernel), List.mem_of_getElem? (i := 471) (by decide +kernel), List.mem_of_getElem? (i := 472) (by decide +kernel)⟩
theorem lw_p10 : lw_okq (⟨"OddChoir$OrderSearch", "heardAt", "(II)I"⟩, 7) := ⟨⟨by decide +kernel, by decide +kernel⟩, List.mem_of_getElem? (i := 140) (by decide +kernel), List.mem_of_getElem? (i := 475) (by decide +kernel), List.mem_of_getElem? (i := 476) (by decide +kernel)⟩
theorem lw_p11 : lw_okq (⟨"OddChoir$OrderSearch", "parityOf", "(III)I"⟩, 7) := ⟨⟨by decide +kernel, by decide +kernel⟩, List.mem_of_getElem? (i := 140) (by decide +kernel), List.mem_of_getElem? (i := 486) (by decide +kernel), List.mem_of_getElem? (i := 487) (by decide +kernel)⟩
theorem lw_p12 : lw_okq (⟨"OddChoir", "mixSingers", "(JI)J"⟩, 8) := ⟨⟨by decide +kernel, by decide +kernel⟩, List.mem_of_getElem? (i := 25) (by decide +kernel), List.mem_of_getElem? (i := 494) (by decide +kernel), List.mem_of_getElem? (i := 495) (by decide +kernel)⟩
theorem lw_p13 : lw_okq (⟨"OddChoir", "ofSinger", "(III)I"⟩, 8) := ⟨⟨by decide +kernel, by decide +kernel⟩, List.mem_of_getElem? (i := 25) (by decide +kernel), List.mem_of_getElem? (i := 498) (by decide +kernel), List.mem_of_getElem? (i := 499) (by decide +kernel)⟩
theorem lw_p14 : lw_okq (⟨"OddChoir$Choir", "singersBetween", "(III)I"⟩, 9) := ⟨⟨by decide +kernel, by decide +kernel⟩, List.mem_of_getElem? (i := 33) (by decide +kernel), List.mem_of_getElem? (i := 515) (by decide +kernel), List.mem_of_getElem? (i := 516) (by decide +kernel)⟩
theorem lw_p15 : lw_okq (⟨"OddChoir$Choir", "putBetween", "(LOddChoir$HeightTree;III)V"⟩, 9) := ⟨⟨by decide +kernel, by decide +kernel⟩, List.mem_of_getElem? (i := 33) (by decide +kernel), List.mem_of_getElem? (i := 528) (by decide +kernel), List.mem_of_getElem? (i := 529) (by decide +kernel)⟩
def lw_privs_1 : List (MethodName × Nat) := [(⟨"OddChoir$ChantText", "formAt", "(I)Ljava/lang/String;"⟩, 2), (⟨"OddChoir$ChantText", "fits", "(Ljava/lang/String;II)Z"⟩, 2), (⟨"OddChoir$ChantText", "isTopHeight", "(I)Z"⟩, 2), (⟨"OddChoir$Choir", "higherBetween", "(IIII)I"⟩, 9), (⟨"OddChoir$Choir", "rowBehind", "(I)I"⟩, 9), (⟨"OddChoir", "ofAll", "(I)I"⟩, 8), (⟨"OddChoir", "ofRow", "(II)I"⟩, 8), (⟨"OddChoir$OrderSearch", "noteSinger", "(LOddChoir$Choir;II)V"⟩, 7), (⟨"OddChoir$OrderSearch", "choose", "(IIII)V"⟩, 7), (⟨"OddChoir$OrderSearch", "cannotBeBetter", "(II)Z"⟩, 7), (⟨"OddChoir$OrderSearch", "heardAt", "(II)I"⟩, 7), (⟨"OddChoir$OrderSearch", "parityOf", "(III)I"⟩, 7), (⟨"OddChoir", "mixSingers", "(JI)J"⟩, 8), (⟨"OddChoir", "ofSinger", "(III)I"⟩, 8), (⟨"OddChoir$Choir", "singersBetween", "(III)I"⟩, 9), (⟨"OddChoir$Choir", "putBetween", "(LOddChoir$HeightTree;III)V"⟩, 9)]
theorem lw_r1 : ∀ q ∈ lw_privs_1, lw_okq q := List.forall_mem_cons.mpr ⟨lw_p0, List.forall_mem_cons.mpr ⟨lw_p1, List.forall_mem_cons.mpr ⟨lw_p2, List.forall_mem_cons.mpr ⟨lw_p3, List.forall_mem_cons.mpr ⟨lw_p4, List.forall_mem_cons.mpr ⟨lw_p5, List.forall_mem_cons.mpr ⟨lw_p6, List.forall_mem_cons.mpr ⟨lw_p7, List.forall_mem_cons.mpr ⟨lw_p8, List.forall_mem_cons.mpr ⟨lw_p9, List.forall_mem_cons.mpr ⟨lw_p10, List.forall_mem_cons.mpr ⟨lw_p11, List.forall_mem_cons.mpr ⟨lw_p12, List.forall_mem_cons.mpr ⟨lw_p13, List.forall_mem_cons.mpr ⟨lw_p14, List.forall_mem_cons.mpr ⟨lw_p15, fun _ h => absurd h List.not_mem_nil⟩⟩⟩⟩⟩⟩⟩⟩⟩⟩⟩⟩⟩⟩⟩⟩
theorem lw_p16 : lw_okq (⟨"OddChoir$HeightTree", "freshNode", "(I)LOddChoir$Node;"⟩, 3) := ⟨⟨by decide +kernel, by decide +kernel⟩, List.mem_of_getElem? (i := 104) (by decide +kernel), List.mem_of_getElem? (i := 536) (by decide +kernel), List.mem_of_getElem? (i := 537) (by decide +kernel)⟩
theorem lw_p17 : lw_okq (⟨"OddChoir$Choir", "rowBefore", "(I)I"⟩, 9) := ⟨⟨by decide +kernel, by decide +kernel⟩, List.mem_of_getElem? (i := 33) (by decide +kernel), List.mem_of_getElem? (i := 551) (by decide +kernel), List.mem_of_getElem? (i := 552) (by decide +kernel)⟩
theorem lw_p18 : lw_okq (⟨"OddChoir", "bestPair", "(I)I"⟩, 8) := ⟨⟨by decide +kernel, by decide +kernel⟩, List.mem_of_getElem? (i := 25) (by decide +kernel), List.mem_of_getElem? (i := 555) (by decide +kernel), List.mem_of_getElem? (i := 556) (by decide +kernel)⟩
theorem lw_p19 : lw_okq (⟨"OddChoir", "mixWritten", "(JI)J"⟩, 8) := ⟨⟨by decide +kernel, by decide +kernel⟩, List.mem_of_getElem? (i := 25) (by decide +kernel), List.mem_of_getElem? (i := 567) (by decide +kernel), List.mem_of_getElem? (i := 568) (by decide +kernel)⟩
theorem lw_p20 : lw_okq (⟨"OddChoir", "bestRowFor", "(I)I"⟩, 8) := ⟨⟨by decide +kernel, by decide +kernel⟩, List.mem_of_getElem? (i := 25) (by decide +kernel), List.mem_of_getElem? (i := 587) (by decide +kernel), List.mem_of_getElem? (i := 588) (by decide +kernel)⟩
theorem lw_p21 : lw_okq (⟨"OddChoir$Choir", "changeSize", "(II)V"⟩, 9) := ⟨⟨by decide +kernel, by decide +kernel⟩, List.mem_of_getElem? (i := 33) (by decide +kernel), List.mem_of_getElem? (i := 595) (by decide +kernel), List.mem_of_getElem? (i := 596) (by decide +kernel)⟩
theorem lw_p22 : lw_okq (⟨"OddChoir", "oddWithReach", "(I)I"⟩, 8) := ⟨⟨by decide +kernel, by decide +kernel⟩, List.mem_of_getElem? (i := 25) (by decide +kernel), List.mem_of_getElem? (i := 599) (by decide +kernel), List.mem_of_getElem? (i := 600) (by decide +kernel)⟩
theorem lw_p23 : lw_okq (⟨"OddChoir", "mixText", "(J)J"⟩, 8) := ⟨⟨by decide +kernel, by decide +kernel⟩, List.mem_of_getElem? (i := 25) (by decide +kernel), List.mem_of_getElem? (i := 614) (by decide +kernel), List.mem_of_getElem? (i := 615) (by decide +kernel)⟩
theorem lw_p24 : lw_okq (⟨"java/lang/Throwable", "fillInStackTrace", "(I)Ljava/lang/Throwable;"⟩, 6) := ⟨⟨by decide +kernel, by decide +kernel⟩, List.mem_of_getElem? (i := 674) (by decide +kernel), List.mem_of_getElem? (i := 672) (by decide +kernel), List.mem_of_getElem? (i := 673) (by decide +kernel)⟩
theorem lw_p25 : lw_okq (⟨"OddChoir$History", "slotAt", "(I)LOddChoir$Choir;"⟩, 3) := ⟨⟨by decide +kernel, by decide +kernel⟩, List.mem_of_getElem? (i := 71) (by decide +kernel), List.mem_of_getElem? (i := 746) (by decide +kernel), List.mem_of_getElem? (i := 747) (by decide +kernel)⟩
theorem lw_p26 : lw_okq (⟨"OddChoir", "needSinger", "(II)V"⟩, 8) := ⟨⟨by decide +kernel, by decide +kernel⟩, List.mem_of_getElem? (i := 25) (by decide +kernel), List.mem_of_getElem? (i := 761) (by decide +kernel), List.mem_of_getElem? (i := 762) (by decide +kernel)⟩
theorem lw_p27 : lw_okq (⟨"OddChoir$Choir", "moveToRightEnd", "(II)V"⟩, 9) := ⟨⟨by decide +kernel, by decide +kernel⟩, List.mem_of_getElem? (i := 33) (by decide +kernel), List.mem_of_getElem? (i := 774) (by decide +kernel), List.mem_of_getElem? (i := 775) (by decide +kernel)⟩
theorem lw_p28 : lw_okq (⟨"OddChoir$Choir", "rankAt", "(III)I"⟩, 9) := ⟨⟨by decide +kernel, by decide +kernel⟩, List.mem_of_getElem? (i := 33) (by decide +kernel), List.mem_of_getElem? (i := 834) (by decide +kernel), List.mem_of_getElem? (i := 835) (by decide +kernel)⟩
theorem lw_p29 : lw_okq (⟨"OddChoir", "doPart", "(I)Z"⟩, 8) := ⟨⟨by decide +kernel, by decide +kernel⟩, List.mem_of_getElem? (i := 25) (by decide +kernel), List.mem_of_getElem? (i := 868) (by decide +kernel), List.mem_of_getElem? (i := 869) (by decide +kernel)⟩
theorem lw_p30 : lw_okq (⟨"OddChoir", "joinByText", "(I)Z"⟩, 8) := ⟨⟨by decide +kernel, by decide +kernel⟩, List.mem_of_getElem? (i := 25) (by decide +kernel), List.mem_of_getElem? (i := 873) (by decide +kernel), List.mem_of_getElem? (i := 874) (by decide +kernel)⟩
theorem lw_p31 : lw_okq (⟨"OddChoir", "swapByText", "(I)Z"⟩, 8) := ⟨⟨by decide +kernel, by decide +kernel⟩, List.mem_of_getElem? (i := 25) (by decide +kernel), List.mem_of_getElem? (i := 883) (by decide +kernel), List.mem_of_getElem? (i := 884) (by decide +kernel)⟩
def lw_privs_2 : List (MethodName × Nat) := [(⟨"OddChoir$HeightTree", "freshNode", "(I)LOddChoir$Node;"⟩, 3), (⟨"OddChoir$Choir", "rowBefore", "(I)I"⟩, 9), (⟨"OddChoir", "bestPair", "(I)I"⟩, 8), (⟨"OddChoir", "mixWritten", "(JI)J"⟩, 8), (⟨"OddChoir", "bestRowFor", "(I)I"⟩, 8), (⟨"OddChoir$Choir", "changeSize", "(II)V"⟩, 9), (⟨"OddChoir", "oddWithReach", "(I)I"⟩, 8), (⟨"OddChoir", "mixText", "(J)J"⟩, 8), (⟨"java/lang/Throwable", "fillInStackTrace", "(I)Ljava/lang/Throwable;"⟩, 6), (⟨"OddChoir$History", "slotAt", "(I)LOddChoir$Choir;"⟩, 3), (⟨"OddChoir", "needSinger", "(II)V"⟩, 8), (⟨"OddChoir$Choir", "moveToRightEnd", "(II)V"⟩, 9), (⟨"OddChoir$Choir", "rankAt", "(III)I"⟩, 9), (⟨"OddChoir", "doPart", "(I)Z"⟩, 8), (⟨"OddChoir", "joinByText", "(I)Z"⟩, 8), (⟨"OddChoir", "swapByText", "(I)Z"⟩, 8)]
theorem lw_r2 : ∀ q ∈ lw_privs_2, lw_okq q := List.forall_mem_cons.mpr ⟨lw_p16, List.forall_mem_cons.mpr ⟨lw_p17, List.forall_mem_cons.mpr ⟨lw_p18, List.forall_mem_cons.mpr ⟨lw_p19, List.forall_mem_cons.mpr ⟨lw_p20, List.forall_mem_cons.mpr ⟨lw_p21, List.forall_mem_cons.mpr ⟨lw_p22, List.forall_mem_cons.mpr ⟨lw_p23, List.forall_mem_cons.mpr ⟨lw_p24, List.forall_mem_cons.mpr ⟨lw_p25, List.forall_mem_cons.mpr ⟨lw_p26, List.forall_mem_cons.mpr ⟨lw_p27, List.forall_mem_cons.mpr ⟨lw_p28, List.forall_mem_cons.mpr ⟨lw_p29, List.forall_mem_cons.mpr ⟨lw_p30, List.forall_mem_cons.mpr ⟨lw_p31, fun _ h => absurd h List.not_mem_nil⟩⟩⟩⟩⟩⟩⟩⟩⟩⟩⟩⟩⟩⟩⟩⟩
theorem lw_p32 : lw_okq (⟨"OddChoirModel", "fails", "(I)I"⟩, 19) := ⟨⟨by decide +kernel, by decide +kernel⟩, List.mem_of_getElem? (i := 972) (by decide +kernel), List.mem_of_getElem? (i := 1044) (by decide +kernel), List.mem_of_getElem? (i := 1045) (by decide +kernel)⟩
theorem lw_p33 : lw_okq (⟨"OddChoirModel", "singers", "()I"⟩, 19) := ⟨⟨by decide +kernel, by decide +kernel⟩, List.mem_of_getElem? (i := 972) (by decide +kernel), List.mem_of_getElem? (i := 1052) (by decide +kernel), List.mem_of_getElem? (i := 1053) (by decide +kernel)⟩
theorem lw_p34 : lw_okq (⟨"OddChoirModel", "save", "()V"⟩, 19) := ⟨⟨by decide +kernel, by decide +kernel⟩, List.mem_of_getElem? (i := 972) (by decide +kernel), List.mem_of_getElem? (i := 1060) (by decide +kernel), List.mem_of_getElem? (i := 1061) (by decide +kernel)⟩
theorem lw_p35 : lw_okq (⟨"OddChoirModel", "hasRoom", "(I)Z"⟩, 19) := ⟨⟨by decide +kernel, by decide +kernel⟩, List.mem_of_getElem? (i := 972) (by decide +kernel), List.mem_of_getElem? (i := 1077) (by decide +kernel), List.mem_of_getElem? (i := 1078) (by decide +kernel)⟩
theorem lw_p36 : lw_okq (⟨"OddChoirModel", "joinNow", "(III)I"⟩, 19) := ⟨⟨by decide +kernel, by decide +kernel⟩, List.mem_of_getElem? (i := 972) (by decide +kernel), List.mem_of_getElem? (i := 1081) (by decide +kernel), List.mem_of_getElem? (i := 1082) (by decide +kernel)⟩
theorem lw_p37 : lw_okq (⟨"OddChoirModel", "isPlace", "(II)Z"⟩, 19) := ⟨⟨by decide +kernel, by decide +kernel⟩, List.mem_of_getElem? (i := 972) (by decide +kernel), List.mem_of_getElem? (i := 1089) (by decide +kernel), List.mem_of_getElem? (i := 1090) (by decide +kernel)⟩
theorem lw_p38 : lw_okq (⟨"OddChoirModel", "removeNow", "(II)V"⟩, 19) := ⟨⟨by decide +kernel, by decide +kernel⟩, List.mem_of_getElem? (i := 972) (by decide +kernel), List.mem_of_getElem? (i := 1093) (by decide +kernel), List.mem_of_getElem? (i := 1094) (by decide +kernel)⟩
theorem lw_p39 : lw_okq (⟨"OddChoirModel", "copy", "(II)V"⟩, 19) := ⟨⟨by decide +kernel, by decide +kernel⟩, List.mem_of_getElem? (i := 972) (by decide +kernel), List.mem_of_getElem? (i := 1097) (by decide +kernel), List.mem_of_getElem? (i := 1098) (by decide +kernel)⟩
theorem lw_p40 : lw_okq (⟨"OddChoirModel", "clear", "(I)V"⟩, 19) := ⟨⟨by decide +kernel, by decide +kernel⟩, List.mem_of_getElem? (i := 972) (by decide +kernel), List.mem_of_getElem? (i := 1101) (by decide +kernel), List.mem_of_getElem? (i := 1102) (by decide +kernel)⟩
theorem lw_p41 : lw_okq (⟨"OddChoirModel", "heightAt", "(II)I"⟩, 19) := ⟨⟨by decide +kernel, by decide +kernel⟩, List.mem_of_getElem? (i := 972) (by decide +kernel), List.mem_of_getElem? (i := 1109) (by decide +kernel), List.mem_of_getElem? (i := 1110) (by decide +kernel)⟩
theorem lw_p42 : lw_okq (⟨"OddChoirModel", "exchange", "(II)V"⟩, 19) := ⟨⟨by decide +kernel, by decide +kernel⟩, List.mem_of_getElem? (i := 972) (by decide +kernel), List.mem_of_getElem? (i := 1117) (by decide +kernel), List.mem_of_getElem? (i := 1118) (by decide +kernel)⟩
theorem lw_p43 : lw_okq (⟨"OddChoirModel", "odd", "()I"⟩, 19) := ⟨⟨by decide +kernel, by decide +kernel⟩, List.mem_of_getElem? (i := 972) (by decide +kernel), List.mem_of_getElem? (i := 1121) (by decide +kernel), List.mem_of_getElem? (i := 1122) (by decide +kernel)⟩
theorem lw_p44 : lw_okq (⟨"OddChoirModel", "oddIn", "(I)I"⟩, 19) := ⟨⟨by decide +kernel, by decide +kernel⟩, List.mem_of_getElem? (i := 972) (by decide +kernel), List.mem_of_getElem? (i := 1125) (by decide +kernel), List.mem_of_getElem? (i := 1126) (by decide +kernel)⟩
theorem lw_p45 : lw_okq (⟨"OddChoirModel", "higher", "(II)I"⟩, 19) := ⟨⟨by decide +kernel, by decide +kernel⟩, List.mem_of_getElem? (i := 972) (by decide +kernel), List.mem_of_getElem? (i := 1129) (by decide +kernel), List.mem_of_getElem? (i := 1130) (by decide +kernel)⟩
theorem lw_p46 : lw_okq (⟨"OddChoirModel", "hears", "(IIII)Z"⟩, 19) := ⟨⟨by decide +kernel, by decide +kernel⟩, List.mem_of_getElem? (i := 972) (by decide +kernel), List.mem_of_getElem? (i := 1133) (by decide +kernel), List.mem_of_getElem? (i := 1134) (by decide +kernel)⟩
theorem lw_p47 : lw_okq (⟨"OddChoirModel", "hearsBehind", "(I)Z"⟩, 19) := ⟨⟨by decide +kernel, by decide +kernel⟩, List.mem_of_getElem? (i := 972) (by decide +kernel), List.mem_of_getElem? (i := 1137) (by decide +kernel), List.mem_of_getElem? (i := 1138) (by decide +kernel)⟩
def lw_privs_3 : List (MethodName × Nat) := [(⟨"OddChoirModel", "fails", "(I)I"⟩, 19), (⟨"OddChoirModel", "singers", "()I"⟩, 19), (⟨"OddChoirModel", "save", "()V"⟩, 19), (⟨"OddChoirModel", "hasRoom", "(I)Z"⟩, 19), (⟨"OddChoirModel", "joinNow", "(III)I"⟩, 19), (⟨"OddChoirModel", "isPlace", "(II)Z"⟩, 19), (⟨"OddChoirModel", "removeNow", "(II)V"⟩, 19), (⟨"OddChoirModel", "copy", "(II)V"⟩, 19), (⟨"OddChoirModel", "clear", "(I)V"⟩, 19), (⟨"OddChoirModel", "heightAt", "(II)I"⟩, 19), (⟨"OddChoirModel", "exchange", "(II)V"⟩, 19), (⟨"OddChoirModel", "odd", "()I"⟩, 19), (⟨"OddChoirModel", "oddIn", "(I)I"⟩, 19), (⟨"OddChoirModel", "higher", "(II)I"⟩, 19), (⟨"OddChoirModel", "hears", "(IIII)Z"⟩, 19), (⟨"OddChoirModel", "hearsBehind", "(I)Z"⟩, 19)]
theorem lw_r3 : ∀ q ∈ lw_privs_3, lw_okq q := List.forall_mem_cons.mpr ⟨lw_p32, List.forall_mem_cons.mpr ⟨lw_p33, List.forall_mem_cons.mpr ⟨lw_p34, List.forall_mem_cons.mpr ⟨lw_p35, List.forall_mem_cons.mpr ⟨lw_p36, List.forall_mem_cons.mpr ⟨lw_p37, List.forall_mem_cons.mpr ⟨lw_p38, List.forall_mem_cons.mpr ⟨lw_p39, List.forall_mem_cons.mpr ⟨lw_p40, List.forall_mem_cons.mpr ⟨lw_p41, List.forall_mem_cons.mpr ⟨lw_p42, List.forall_mem_cons.mpr ⟨lw_p43, List.forall_mem_cons.mpr ⟨lw_p44, List.forall_mem_cons.mpr ⟨lw_p45, List.forall_mem_cons.mpr ⟨lw_p46, List.forall_mem_cons.mpr ⟨lw_p47, fun _ h => absurd h List.not_mem_nil⟩⟩⟩⟩⟩⟩⟩⟩⟩⟩⟩⟩⟩⟩⟩⟩
theorem lw_p48 : lw_okq (⟨"OddChoirModel", "turnNow", "(I)V"⟩, 19) := ⟨⟨by decide +kernel, by decide +kernel⟩, List.mem_of_getElem? (i := 972) (by decide +kernel), List.mem_of_getElem? (i := 1149) (by decide +kernel), List.mem_of_getElem? (i := 1150) (by decide +kernel)⟩
theorem lw_p49 : lw_okq (⟨"OddChoirModel", "sortNow", "(II)V"⟩, 19) := ⟨⟨by decide +kernel, by decide +kernel⟩, List.mem_of_getElem? (i := 972) (by decide +kernel), List.mem_of_getElem? (i := 1157) (by decide +kernel), List.mem_of_getElem? (i := 1158) (by decide +kernel)⟩
theorem lw_p50 : lw_okq (⟨"OddChoirModel", "isBehind", "(III)Z"⟩, 19) := ⟨⟨by decide +kernel, by decide +kernel⟩, List.mem_of_getElem? (i := 972) (by decide +kernel), List.mem_of_getElem? (i := 1161) (by decide +kernel), List.mem_of_getElem? (i := 1162) (by decide +kernel)⟩
theorem lw_p51 : lw_okq (⟨"OddChoirModel", "discord", "(I)I"⟩, 19) := ⟨⟨by decide +kernel, by decide +kernel⟩, List.mem_of_getElem? (i := 972) (by decide +kernel), List.mem_of_getElem? (i := 1165) (by decide +kernel), List.mem_of_getElem? (i := 1166) (by decide +kernel)⟩
theorem lw_p52 : lw_okq (⟨"OddChoirModel", "isChants", "()Z"⟩, 19) := ⟨⟨by decide +kernel, by decide +kernel⟩, List.mem_of_getElem? (i := 972) (by decide +kernel), List.mem_of_getElem? (i := 1185) (by decide +kernel), List.mem_of_getElem? (i := 1186) (by decide +kernel)⟩
theorem lw_p53 : lw_okq (⟨"OddChoirModel", "readPart", "()Z"⟩, 19) := ⟨⟨by decide +kernel, by decide +kernel⟩, List.mem_of_getElem? (i := 972) (by decide +kernel), List.mem_of_getElem? (i := 1189) (by decide +kernel), List.mem_of_getElem? (i := 1190) (by decide +kernel)⟩
theorem lw_p54 : lw_okq (⟨"OddChoirModel", "readWord", "(I)Z"⟩, 19) := ⟨⟨by decide +kernel, by decide +kernel⟩, List.mem_of_getElem? (i := 972) (by decide +kernel), List.mem_of_getElem? (i := 1193) (by decide +kernel), List.mem_of_getElem? (i := 1194) (by decide +kernel)⟩
theorem lw_p55 : lw_okq (⟨"OddChoirModel", "takesWord", "(III)Z"⟩, 19) := ⟨⟨by decide +kernel, by decide +kernel⟩, List.mem_of_getElem? (i := 972) (by decide +kernel), List.mem_of_getElem? (i := 1197) (by decide +kernel), List.mem_of_getElem? (i := 1198) (by decide +kernel)⟩
theorem lw_p56 : lw_okq (⟨"OddChoirModel", "takesSign", "(I)Z"⟩, 19) := ⟨⟨by decide +kernel, by decide +kernel⟩, List.mem_of_getElem? (i := 972) (by decide +kernel), List.mem_of_getElem? (i := 1201) (by decide +kernel), List.mem_of_getElem? (i := 1202) (by decide +kernel)⟩
theorem lw_p57 : lw_okq (⟨"OddChoirModel", "takes", "(II)Z"⟩, 19) := ⟨⟨by decide +kernel, by decide +kernel⟩, List.mem_of_getElem? (i := 972) (by decide +kernel), List.mem_of_getElem? (i := 1205) (by decide +kernel), List.mem_of_getElem? (i := 1206) (by decide +kernel)⟩
theorem lw_p58 : lw_okq (⟨"OddChoirModel", "isAt", "(II)Z"⟩, 19) := ⟨⟨by decide +kernel, by decide +kernel⟩, List.mem_of_getElem? (i := 972) (by decide +kernel), List.mem_of_getElem? (i := 1209) (by decide +kernel), List.mem_of_getElem? (i := 1210) (by decide +kernel)⟩
theorem lw_p59 : lw_okq (⟨"OddChoirModel", "digit", "(I)I"⟩, 19) := ⟨⟨by decide +kernel, by decide +kernel⟩, List.mem_of_getElem? (i := 972) (by decide +kernel), List.mem_of_getElem? (i := 1213) (by decide +kernel), List.mem_of_getElem? (i := 1214) (by decide +kernel)⟩
theorem lw_p60 : lw_okq (⟨"OddChoirModel", "readHeight", "()Z"⟩, 19) := ⟨⟨by decide +kernel, by decide +kernel⟩, List.mem_of_getElem? (i := 972) (by decide +kernel), List.mem_of_getElem? (i := 1217) (by decide +kernel), List.mem_of_getElem? (i := 1218) (by decide +kernel)⟩
theorem lw_p61 : lw_okq (⟨"OddChoirModel", "readVoice", "()Z"⟩, 19) := ⟨⟨by decide +kernel, by decide +kernel⟩, List.mem_of_getElem? (i := 972) (by decide +kernel), List.mem_of_getElem? (i := 1221) (by decide +kernel), List.mem_of_getElem? (i := 1222) (by decide +kernel)⟩
theorem lw_p62 : lw_okq (⟨"OddChoirModel", "readPlaces", "()Z"⟩, 19) := ⟨⟨by decide +kernel, by decide +kernel⟩, List.mem_of_getElem? (i := 972) (by decide +kernel), List.mem_of_getElem? (i := 1225) (by decide +kernel), List.mem_of_getElem? (i := 1226) (by decide +kernel)⟩
theorem lw_p63 : lw_okq (⟨"OddChoirModel", "canDo", "(I)Z"⟩, 19) := ⟨⟨by decide +kernel, by decide +kernel⟩, List.mem_of_getElem? (i := 972) (by decide +kernel), List.mem_of_getElem? (i := 1233) (by decide +kernel), List.mem_of_getElem? (i := 1234) (by decide +kernel)⟩
def lw_privs_4 : List (MethodName × Nat) := [(⟨"OddChoirModel", "turnNow", "(I)V"⟩, 19), (⟨"OddChoirModel", "sortNow", "(II)V"⟩, 19), (⟨"OddChoirModel", "isBehind", "(III)Z"⟩, 19), (⟨"OddChoirModel", "discord", "(I)I"⟩, 19), (⟨"OddChoirModel", "isChants", "()Z"⟩, 19), (⟨"OddChoirModel", "readPart", "()Z"⟩, 19), (⟨"OddChoirModel", "readWord", "(I)Z"⟩, 19), (⟨"OddChoirModel", "takesWord", "(III)Z"⟩, 19), (⟨"OddChoirModel", "takesSign", "(I)Z"⟩, 19), (⟨"OddChoirModel", "takes", "(II)Z"⟩, 19), (⟨"OddChoirModel", "isAt", "(II)Z"⟩, 19), (⟨"OddChoirModel", "digit", "(I)I"⟩, 19), (⟨"OddChoirModel", "readHeight", "()Z"⟩, 19), (⟨"OddChoirModel", "readVoice", "()Z"⟩, 19), (⟨"OddChoirModel", "readPlaces", "()Z"⟩, 19), (⟨"OddChoirModel", "canDo", "(I)Z"⟩, 19)]
theorem lw_r4 : ∀ q ∈ lw_privs_4, lw_okq q := List.forall_mem_cons.mpr ⟨lw_p48, List.forall_mem_cons.mpr ⟨lw_p49, List.forall_mem_cons.mpr ⟨lw_p50, List.forall_mem_cons.mpr ⟨lw_p51, List.forall_mem_cons.mpr ⟨lw_p52, List.forall_mem_cons.mpr ⟨lw_p53, List.forall_mem_cons.mpr ⟨lw_p54, List.forall_mem_cons.mpr ⟨lw_p55, List.forall_mem_cons.mpr ⟨lw_p56, List.forall_mem_cons.mpr ⟨lw_p57, List.forall_mem_cons.mpr ⟨lw_p58, List.forall_mem_cons.mpr ⟨lw_p59, List.forall_mem_cons.mpr ⟨lw_p60, List.forall_mem_cons.mpr ⟨lw_p61, List.forall_mem_cons.mpr ⟨lw_p62, List.forall_mem_cons.mpr ⟨lw_p63, fun _ h => absurd h List.not_mem_nil⟩⟩⟩⟩⟩⟩⟩⟩⟩⟩⟩⟩⟩⟩⟩⟩
theorem lw_p64 : lw_okq (⟨"OddChoirModel", "doPart", "(I)V"⟩, 19) := ⟨⟨by decide +kernel, by decide +kernel⟩, List.mem_of_getElem? (i := 972) (by decide +kernel), List.mem_of_getElem? (i := 1237) (by decide +kernel), List.mem_of_getElem? (i := 1238) (by decide +kernel)⟩
theorem lw_p65 : lw_okq (⟨"OddChoirModel", "writtenAt", "(II)I"⟩, 19) := ⟨⟨by decide +kernel, by decide +kernel⟩, List.mem_of_getElem? (i := 972) (by decide +kernel), List.mem_of_getElem? (i := 1245) (by decide +kernel), List.mem_of_getElem? (i := 1246) (by decide +kernel)⟩
theorem lw_p66 : lw_okq (⟨"OddChoirModel", "ofSinger", "(III)I"⟩, 19) := ⟨⟨by decide +kernel, by decide +kernel⟩, List.mem_of_getElem? (i := 972) (by decide +kernel), List.mem_of_getElem? (i := 1253) (by decide +kernel), List.mem_of_getElem? (i := 1254) (by decide +kernel)⟩
theorem lw_p67 : lw_okq (⟨"OddChoirModel", "heard", "(II)I"⟩, 19) := ⟨⟨by decide +kernel, by decide +kernel⟩, List.mem_of_getElem? (i := 972) (by decide +kernel), List.mem_of_getElem? (i := 1257) (by decide +kernel), List.mem_of_getElem? (i := 1258) (by decide +kernel)⟩
theorem lw_p68 : lw_okq (⟨"OddChoirModel", "hearers", "(II)I"⟩, 19) := ⟨⟨by decide +kernel, by decide +kernel⟩, List.mem_of_getElem? (i := 972) (by decide +kernel), List.mem_of_getElem? (i := 1261) (by decide +kernel), List.mem_of_getElem? (i := 1262) (by decide +kernel)⟩
theorem lw_p69 : lw_okq (⟨"OddChoirModel", "ofRow", "(II)I"⟩, 19) := ⟨⟨by decide +kernel, by decide +kernel⟩, List.mem_of_getElem? (i := 972) (by decide +kernel), List.mem_of_getElem? (i := 1269) (by decide +kernel), List.mem_of_getElem? (i := 1270) (by decide +kernel)⟩
theorem lw_p70 : lw_okq (⟨"OddChoirModel", "tryOrders", "(I)V"⟩, 19) := ⟨⟨by decide +kernel, by decide +kernel⟩, List.mem_of_getElem? (i := 972) (by decide +kernel), List.mem_of_getElem? (i := 1273) (by decide +kernel), List.mem_of_getElem? (i := 1274) (by decide +kernel)⟩
theorem lw_p71 : lw_okq (⟨"OddChoirModel", "swapsOf", "(I)I"⟩, 19) := ⟨⟨by decide +kernel, by decide +kernel⟩, List.mem_of_getElem? (i := 972) (by decide +kernel), List.mem_of_getElem? (i := 1277) (by decide +kernel), List.mem_of_getElem? (i := 1278) (by decide +kernel)⟩
theorem lw_p72 : lw_okq (⟨"OddChoirModel", "nextOrder", "(I)Z"⟩, 19) := ⟨⟨by decide +kernel, by decide +kernel⟩, List.mem_of_getElem? (i := 972) (by decide +kernel), List.mem_of_getElem? (i := 1281) (by decide +kernel), List.mem_of_getElem? (i := 1282) (by decide +kernel)⟩
theorem lw_p73 : lw_okq (⟨"OddChoirModel", "swapOrder", "(II)V"⟩, 19) := ⟨⟨by decide +kernel, by decide +kernel⟩, List.mem_of_getElem? (i := 972) (by decide +kernel), List.mem_of_getElem? (i := 1285) (by decide +kernel), List.mem_of_getElem? (i := 1286) (by decide +kernel)⟩
theorem lw_p74 : lw_okq (⟨"OddChoirModel", "highest", "(I)I"⟩, 19) := ⟨⟨by decide +kernel, by decide +kernel⟩, List.mem_of_getElem? (i := 972) (by decide +kernel), List.mem_of_getElem? (i := 1289) (by decide +kernel), List.mem_of_getElem? (i := 1290) (by decide +kernel)⟩
theorem lw_p75 : lw_okq (⟨"OddChoirModel", "placeOf", "(I)I"⟩, 19) := ⟨⟨by decide +kernel, by decide +kernel⟩, List.mem_of_getElem? (i := 972) (by decide +kernel), List.mem_of_getElem? (i := 1297) (by decide +kernel), List.mem_of_getElem? (i := 1298) (by decide +kernel)⟩
theorem lw_p76 : lw_okq (⟨"OddChoirModel", "number", "(I)I"⟩, 19) := ⟨⟨by decide +kernel, by decide +kernel⟩, List.mem_of_getElem? (i := 972) (by decide +kernel), List.mem_of_getElem? (i := 1305) (by decide +kernel), List.mem_of_getElem? (i := 1306) (by decide +kernel)⟩
theorem lw_p77 : lw_okq (⟨"OddChoirModel", "oddIfSwapped", "(II)I"⟩, 19) := ⟨⟨by decide +kernel, by decide +kernel⟩, List.mem_of_getElem? (i := 972) (by decide +kernel), List.mem_of_getElem? (i := 1313) (by decide +kernel), List.mem_of_getElem? (i := 1314) (by decide +kernel)⟩
theorem lw_p78 : lw_okq (⟨"OddChoirModel", "bestOf", "(I)I"⟩, 19) := ⟨⟨by decide +kernel, by decide +kernel⟩, List.mem_of_getElem? (i := 972) (by decide +kernel), List.mem_of_getElem? (i := 1321) (by decide +kernel), List.mem_of_getElem? (i := 1322) (by decide +kernel)⟩
theorem lw_p79 : lw_okq (⟨"OddChoirModel", "bestRowFor", "(I)I"⟩, 19) := ⟨⟨by decide +kernel, by decide +kernel⟩, List.mem_of_getElem? (i := 972) (by decide +kernel), List.mem_of_getElem? (i := 1329) (by decide +kernel), List.mem_of_getElem? (i := 1330) (by decide +kernel)⟩
def lw_privs_5 : List (MethodName × Nat) := [(⟨"OddChoirModel", "doPart", "(I)V"⟩, 19), (⟨"OddChoirModel", "writtenAt", "(II)I"⟩, 19), (⟨"OddChoirModel", "ofSinger", "(III)I"⟩, 19), (⟨"OddChoirModel", "heard", "(II)I"⟩, 19), (⟨"OddChoirModel", "hearers", "(II)I"⟩, 19), (⟨"OddChoirModel", "ofRow", "(II)I"⟩, 19), (⟨"OddChoirModel", "tryOrders", "(I)V"⟩, 19), (⟨"OddChoirModel", "swapsOf", "(I)I"⟩, 19), (⟨"OddChoirModel", "nextOrder", "(I)Z"⟩, 19), (⟨"OddChoirModel", "swapOrder", "(II)V"⟩, 19), (⟨"OddChoirModel", "highest", "(I)I"⟩, 19), (⟨"OddChoirModel", "placeOf", "(I)I"⟩, 19), (⟨"OddChoirModel", "number", "(I)I"⟩, 19), (⟨"OddChoirModel", "oddIfSwapped", "(II)I"⟩, 19), (⟨"OddChoirModel", "bestOf", "(I)I"⟩, 19), (⟨"OddChoirModel", "bestRowFor", "(I)I"⟩, 19)]
theorem lw_r5 : ∀ q ∈ lw_privs_5, lw_okq q := List.forall_mem_cons.mpr ⟨lw_p64, List.forall_mem_cons.mpr ⟨lw_p65, List.forall_mem_cons.mpr ⟨lw_p66, List.forall_mem_cons.mpr ⟨lw_p67, List.forall_mem_cons.mpr ⟨lw_p68, List.forall_mem_cons.mpr ⟨lw_p69, List.forall_mem_cons.mpr ⟨lw_p70, List.forall_mem_cons.mpr ⟨lw_p71, List.forall_mem_cons.mpr ⟨lw_p72, List.forall_mem_cons.mpr ⟨lw_p73, List.forall_mem_cons.mpr ⟨lw_p74, List.forall_mem_cons.mpr ⟨lw_p75, List.forall_mem_cons.mpr ⟨lw_p76, List.forall_mem_cons.mpr ⟨lw_p77, List.forall_mem_cons.mpr ⟨lw_p78, List.forall_mem_cons.mpr ⟨lw_p79, fun _ h => absurd h List.not_mem_nil⟩⟩⟩⟩⟩⟩⟩⟩⟩⟩⟩⟩⟩⟩⟩⟩
theorem lw_p80 : lw_okq (⟨"OddChoirModel", "oddWith", "(II)I"⟩, 19) := ⟨⟨by decide +kernel, by decide +kernel⟩, List.mem_of_getElem? (i := 972) (by decide +kernel), List.mem_of_getElem? (i := 1333) (by decide +kernel), List.mem_of_getElem? (i := 1334) (by decide +kernel)⟩
theorem lw_p81 : lw_okq (⟨"OddChoirModel", "oddByReach", "(I)I"⟩, 19) := ⟨⟨by decide +kernel, by decide +kernel⟩, List.mem_of_getElem? (i := 972) (by decide +kernel), List.mem_of_getElem? (i := 1341) (by decide +kernel), List.mem_of_getElem? (i := 1342) (by decide +kernel)⟩
theorem lw_p82 : lw_okq (⟨"OddChoirModel", "share", "()D"⟩, 19) := ⟨⟨by decide +kernel, by decide +kernel⟩, List.mem_of_getElem? (i := 972) (by decide +kernel), List.mem_of_getElem? (i := 1349) (by decide +kernel), List.mem_of_getElem? (i := 1350) (by decide +kernel)⟩
theorem lw_p83 : lw_okq (⟨"OddChoirModel", "mix", "(J)V"⟩, 19) := ⟨⟨by decide +kernel, by decide +kernel⟩, List.mem_of_getElem? (i := 972) (by decide +kernel), List.mem_of_getElem? (i := 1358) (by decide +kernel), List.mem_of_getElem? (i := 1359) (by decide +kernel)⟩
theorem lw_p84 : lw_okq (⟨"OddChoirModel", "mixRow", "(I)V"⟩, 19) := ⟨⟨by decide +kernel, by decide +kernel⟩, List.mem_of_getElem? (i := 972) (by decide +kernel), List.mem_of_getElem? (i := 1363) (by decide +kernel), List.mem_of_getElem? (i := 1364) (by decide +kernel)⟩
def lw_privs_6 : List (MethodName × Nat) := [(⟨"OddChoirModel", "oddWith", "(II)I"⟩, 19), (⟨"OddChoirModel", "oddByReach", "(I)I"⟩, 19), (⟨"OddChoirModel", "share", "()D"⟩, 19), (⟨"OddChoirModel", "mix", "(J)V"⟩, 19), (⟨"OddChoirModel", "mixRow", "(I)V"⟩, 19)]
theorem lw_r6 : ∀ q ∈ lw_privs_6, lw_okq q := List.forall_mem_cons.mpr ⟨lw_p80, List.forall_mem_cons.mpr ⟨lw_p81, List.forall_mem_cons.mpr ⟨lw_p82, List.forall_mem_cons.mpr ⟨lw_p83, List.forall_mem_cons.mpr ⟨lw_p84, fun _ h => absurd h List.not_mem_nil⟩⟩⟩⟩⟩
def lw_privs : List (MethodName × Nat) := lw_privs_1 ++ (lw_privs_2 ++ (lw_privs_3 ++ (lw_privs_4 ++ (lw_privs_5 ++ (lw_privs_6)))))
def lw_tbl : List Cond := k2_sels lw_privs ++ tables_1
theorem lw_privs_ok : ∀ q ∈ lw_privs, lw_okq q := by
  show ∀ q ∈ lw_privs_1 ++ (lw_privs_2 ++ (lw_privs_3 ++ (lw_privs_4 ++ (lw_privs_5 ++ (lw_privs_6))))), lw_okq q
  exact List.forall_mem_append.mpr ⟨lw_r1, List.forall_mem_append.mpr ⟨lw_r2, List.forall_mem_append.mpr ⟨lw_r3, List.forall_mem_append.mpr ⟨lw_r4, List.forall_mem_append.mpr ⟨lw_r5, lw_r6⟩⟩⟩⟩⟩
/-- the streams that the claim lets the run draw from -/
abbrev lw_cs : List Choice := [Jvm.Choice.named "NaN.bits"]
theorem lw_bits : nanBits ∈ lw_cs := by first | decide | exact List.mem_cons_self | simp [lw_cs, nanBits]
/-! ===== BEGIN words of one list among another's, by their places ===== -/
theorem goodIn_r {big : List Cond} (ws : List Cond) (ps : List Nat) (hp : ws = ps.filterMap (fun i => big[i]?)) (h : ws.all goodWord = true) : GoodIn big ws := by
  intro w hw
  have h1 := List.all_eq_true.mp h w hw
  rw [hp] at hw
  obtain ⟨i, -, hi⟩ := List.mem_filterMap.mp hw
  have hm : w ∈ big := by first | exact List.mem_of_getElem? hi | exact List.getElem?_mem hi
  exact ⟨hm, good_of_word h1⟩
theorem goodIn_app {big a b : List Cond} (ha : GoodIn big a) (hb : GoodIn big b) : GoodIn big (a ++ b) := fun w h => (List.mem_append.mp h).elim (ha w) (hb w)
theorem goodIn_ca {big a b : List Cond} {c : Cond} (ha : GoodIn big (c :: a)) (hb : GoodIn big b) : GoodIn big (c :: (a ++ b)) := fun w h => (List.mem_cons.mp h).elim (fun e => ha w (List.mem_cons.mpr (Or.inl e))) (fun h => (List.mem_append.mp h).elim (fun h => ha w (List.mem_cons.mpr (Or.inr h))) (hb w))
theorem goodIn_sub {big ws : List Cond} (hm : ∀ w ∈ ws, w ∈ big) (h : ws.all goodWord = true) : GoodIn big ws := fun w hw => ⟨hm w hw, good_of_word (List.all_eq_true.mp h w hw)⟩
/-! ===== END ===== -/

/-! ===== BEGIN exceptions that leave a method, and their catching by the caller (launches without stack traces) ===== -/
section VXA
/-! The laws vx_back, vx_callV, vx_callS, vx_callSW, vx_throw0, vx_throwS follow proofs of the library, with one case more: JvmDerived/Free/Laws.lean (Back.of_free), Shelf42/LK1.lean (callV, callS), Shelf/KitTraced.lean (throwNew0V, throwNewS). -/
/-- where a method has thrown q: the class by its name, the cell, what was written, the world -/
def vx_T (XC : String → State → State → Prop) (st : State) (q : Addr) (t : State) (mc ms : Nat) (free : Addr → Prop) : Prop :=
  ∃ (E : String) (ce : Cell) (L : List Loc), XC E st t ∧ t.heap[q]? = some ce ∧ ce.vm = .none ∧ st.vm.findClass E = some ce.cls ∧ st.WarmedH t.vm ∧ st.sameButNew ({ t with vm := st.vm } : State) L mc ms ∧ ∀ z ∈ L, free z.base
def vx_Q (Qc : Array Value → State → Outcome → State → Prop) (XC : String → State → State → Prop) (mc ms : Nat) (free : Addr → Prop) : Array Value → State → Outcome → State → Prop := fun a st o t =>
  (Qc a st o t ∧ ∃ L, FrameEnd st o t L mc ms ∧ ∀ q ∈ L, free q.base) ∨ ∃ q, o = .threw q ∧ vx_T XC st q t mc ms free
/-- a callee that returns or throws -/
def vx_Met (l : Launch) (y : MethodName) (ws : List Cond) (rm : Room) (Pc : Array Value → State → Prop) (Qc : Array Value → State → Outcome → State → Prop) (XC : String → State → State → Prop) (mc ms : Nat) (free : Addr → Prop) : Prop :=
  MetFree l y (headSpec ws rm) Pc (fun _ _ _ _ _ => True) (vx_Q Qc XC mc ms free)
def vx_Post (XC : String → State → State → Prop) (mc ms : Nat) (free : Addr → Prop) : Pt → Array Value → Addr → Pt → Prop := fun A a q B =>
  ∃ (g : JFrame) (mk : MethodId) (t : State) (L : List Loc) (E : String) (ce : Cell), B.U.heap = t.heap ∧ B.U.vm = t.vm ∧ XC E (A.U.calling g mk a) t ∧ t.heap[q]? = some ce ∧ ce.vm = .none ∧ A.U.vm.findClass E = some ce.cls ∧ B.locs = A.locs ++ L ∧ (∀ z ∈ L, free z.base) ∧ B.cells = A.cells + mc ∧ B.slots = A.slots + ms
def vx_Back (l : Launch) (R : Room) (p : Program) (e : Env) (below : List Frame) (s : State) (sargs : Array Value) (y : MethodName) (len W9 : Nat)
    (Pre : Pt → Array Value → Prop) (Post : Pt → Array Value → Option Value → Pt → Prop) (PostX : Pt → Array Value → Addr → Pt → Prop) : Prop :=
  ∀ (m : MethodId) (meth : Method) (c : Code) (A : Pt) (g : JFrame) (ig : Instr) (mk : MethodId) (a : Array Value),
    Stand p l e R s m sargs below meth c A.U A.locs A.cells A.slots → g.method = m → g.locals.size = c.maxLocals → decode c.code g.pc = .ok (ig, len) →
    2 * g.monitorRoom + (g.stack.map fun v => v.category).sum ≤ W9 → A.U.methodNamed? y = some mk → Pre A a →
    (∃ (v : Option Value) (B : Pt), Stand p l e R s m sargs below meth c B.U B.locs B.cells B.slots ∧ Post A a v B ∧
      Steps p.tables e below (doInvoke e (A.U.setTop g) [] mk a).1 (B.U.setTop { g with pc := g.pc + len, stack := v.toList ++ g.stack })) ∨
    (∃ (q : Addr) (B : Pt), Stand p l e R s m sargs below meth c B.U B.locs B.cells B.slots ∧ PostX A a q B ∧
      Steps p.tables e below (doInvoke e (A.U.setTop g) [] mk a).1 ((B.U.setTop g).pushFrame (.throwing q)))
section Payer
variable {l : Launch} {R : Room} {p : Program} {e : Env} {below : List Frame} {s : State} {sargs : Array Value} {y : MethodName} {len W9 : Nat}
theorem vx_back {ws : List Cond} {rm : Room} {Pc : Array Value → State → Prop} {Qc : Array Value → State → Outcome → State → Prop} {XC : String → State → State → Prop} {mc ms : Nat} {free : Addr → Prop} {bytes : ByteArray} {maxL : Nat} {ret : Option FieldType}
    (hM : vx_Met l y ws rm Pc Qc XC mc ms free) (hblind : FrameBlind Pc) (hrc : rm.cells = mc) (hrs : rm.slots = ms)
    (hframes : rm.frames + 1 ≤ R.frames) (hlocals : W9 + (maxL + 11) + rm.locals ≤ R.locals)
    (hws : ∀ w ∈ ws, ∀ a' U, s.WarmedH U.vm → w.before a' U = true) (hcode : Cond.code y bytes maxL ret ∈ ws) (hinit : ∀ a' U, s.WarmedH U.vm → (Cond.initialized y.cls).before a' U = true) :
    vx_Back l R p e below s sargs y len W9 (PreOf R mc ms Pc) (PostOf Qc mc ms free) (vx_Post XC mc ms free) := by
  intro m meth c A g ig mk a X hg hsize hdg hW hn hp
  have h1 : (headSpec ws rm).pre.before a A.U = true := atoms_intro fun w hw => hws w hw _ _ X.warmed
  have h2 : (Cond.code y bytes maxL ret).before a A.U = true := hws _ hcode _ _ X.warmed
  have h3 : (Cond.initialized y.cls).before a A.U = true := hinit _ _ X.warmed
  have h4 : A.cells + (headSpec ws rm).room.cells ≤ R.cells := by rw [show (headSpec ws rm).room.cells = mc from hrc]; exact hp.1
  have h5 : A.slots + (headSpec ws rm).room.slots ≤ R.slots := by rw [show (headSpec ws rm).room.slots = ms from hrs]; exact hp.2.1
  have hPc : Pc a (A.U.calling g mk a) := hblind _ _ _ _ hp.2.2
  obtain ⟨U, Ls, c0, s0⟩ := A
  dsimp only [Pt.U, Pt.locs, Pt.cells, Pt.slots] at h1 h2 h3 h4 h5 X hn hPc ⊢
  obtain ⟨methY, cY, hmY, hcY, -, hlY, -, -, -, -⟩ := Cond.code_spec hn h2
  obtain ⟨kY, hkY, -⟩ := className_of_methodNamed hn
  have hinitY : kY.init = .initialized := Cond.initialized_spec (findClass_of_methodNamed hn) hkY h3
  have h : At U g.method c below := by rw [hg]; exact X.here
  have hlocals9 : W9 + (maxL + 11) + (headSpec ws rm).room.locals ≤ R.locals := hlocals
  have happ : (headSpec ws rm).appliesLoose y e.platform (U.calling g mk a) = true :=
    Spec.appliesLoose_calling (g := g) h hdg hn hkY hinitY
      (X.room_calling (g := g) (R' := (headSpec ws rm).room) hsize hmY hcY hframes (by rw [hlY]; omega) h4 h5) h1
  obtain ⟨mid, hmid⟩ := h.above
  have hfr : (U.setTop g).frames = (.java g :: mid) ++ below := by rw [State.frames_setTop' g h.top, hmid]; rfl
  obtain ⟨o, s₂, hsteps, -, hend, hq⟩ := Steps.callFree hM p X.admits X.cas X.clock (acts := []) hfr happ hPc trivial
  have hq' : vx_Q Qc XC mc ms free a (U.calling g mk a) o s₂ := hq
  rw [State.frames_setTop' g h.top] at hend
  obtain ⟨g₀, hg0⟩ := Option.isSome_iff_exists.mp h.top
  obtain ⟨r, hr⟩ := State.topJava?_eq_some.mp hg0
  have hr' : (({ U with heap := s₂.heap, slotsUsed := s₂.slotsUsed } : State).setVm s₂.vm).frames = .java g₀ :: r := hr
  rcases hq' with ⟨hqc, L, hfe, hL⟩ | ⟨q, rfl, E, ce, L, hx, hce, hcv, hcl, hW₂, hsm, hL⟩
  · obtain ⟨⟨v, rfl⟩, hW₂, e2, q2, q3, q4, q5, q6⟩ := id hfe
    have e3 : s₂ = ({ (U.calling g mk a).setFrames s₂.frames with heap := s₂.heap, slotsUsed := s₂.slotsUsed } : State).setVm s₂.vm := by
      have : s₂ = ({ s₂ with vm := (U.calling g mk a).vm } : State).setVm s₂.vm := rfl
      rw [e2] at this
      exact this
    obtain ⟨c₂, i₂, len₂, hc₂, hd₂, hf₂⟩ := hend
    have hW' : U.WarmedH s₂.vm := hW₂
    have hcc : c₂ = c := by
      have h1 : s₂.code? g.method = U.code? g.method := by
        rw [State.code?_eq, State.code?_eq, hW'.alike.method?]
      exact Option.some.inj (hc₂.symm.trans (h1.trans h.code))
    subst hcc
    have hlen : len₂ = len := by rw [hdg] at hd₂; cases hd₂; rfl
    subst hlen
    have hs₂ : s₂ = (({ U with heap := s₂.heap, slotsUsed := s₂.slotsUsed } : State).setVm s₂.vm).setTop { g with pc := g.pc + len₂, stack := v.toList ++ g.stack } := by
      refine e3.trans ?_
      rw [hf₂, State.calling_eq h.top, State.setFrames_setFrames, State.setTop_of_frames _ hr', hr]
      rfl
    have hsame : U.sameButNew ({ U with heap := s₂.heap, slotsUsed := s₂.slotsUsed } : State) L mc ms := by
      refine ⟨?_, q2, q3, q4, q5, q6⟩
      obtain ⟨t, ht, -⟩ := State.frames_cons hr
      show ({ U with heap := s₂.heap, slotsUsed := s₂.slotsUsed } : State) = { U.setFrames U.frames with heap := s₂.heap, slotsUsed := s₂.slotsUsed }
      rw [State.setFrames_self ht]
    subst hg
    refine Or.inl ⟨v, ⟨(({ U with heap := s₂.heap, slotsUsed := s₂.slotsUsed } : State).setVm s₂.vm), Ls ++ L, c0 + mc, s0 + ms⟩,
      ⟨X.admits, X.cas, X.clock, X.frames, X.room, X.hears, X.method, X.code, (X.here.setHeapUsed s₂.heap s₂.slotsUsed).setVm hW'.alike, X.tail, State.WarmedH.trans X.warmed hW', X.limits, X.bytes, X.same.trans (hsame.setVm s.vm)⟩,
      ⟨g, mk, s₂, L, rfl, rfl, hqc, rfl, hL, rfl, rfl⟩, ?_⟩
    show Steps p.tables e below _ ((({ U with heap := s₂.heap, slotsUsed := s₂.slotsUsed } : State).setVm s₂.vm).setTop { g with pc := g.pc + len₂, stack := v.toList ++ g.stack })
    rw [← hs₂]
    exact hsteps
  · obtain ⟨e2, q2, q3, q4, q5, q6⟩ := id hsm
    have e3 : s₂ = ({ (U.calling g mk a).setFrames s₂.frames with heap := s₂.heap, slotsUsed := s₂.slotsUsed } : State).setVm s₂.vm := by
      have : s₂ = ({ s₂ with vm := (U.calling g mk a).vm } : State).setVm s₂.vm := rfl
      rw [e2] at this
      exact this
    have hf₂ : s₂.frames = .throwing q :: .java g :: U.frames.tail := hend
    have hW' : U.WarmedH s₂.vm := hW₂
    have hs₂ : s₂ = ((({ U with heap := s₂.heap, slotsUsed := s₂.slotsUsed } : State).setVm s₂.vm).setTop g).pushFrame (.throwing q) := by
      refine e3.trans ?_
      rw [hf₂, State.calling_eq h.top, State.setFrames_setFrames, State.pushFrame, State.frames_setTop _ hr', State.setTop_of_frames _ hr', State.setFrames_setFrames, hr]
      rfl
    have hsame : U.sameButNew ({ U with heap := s₂.heap, slotsUsed := s₂.slotsUsed } : State) L mc ms := by
      refine ⟨?_, q2, q3, q4, q5, q6⟩
      obtain ⟨t, ht, -⟩ := State.frames_cons hr
      show ({ U with heap := s₂.heap, slotsUsed := s₂.slotsUsed } : State) = { U.setFrames U.frames with heap := s₂.heap, slotsUsed := s₂.slotsUsed }
      rw [State.setFrames_self ht]
    subst hg
    refine Or.inr ⟨q, ⟨(({ U with heap := s₂.heap, slotsUsed := s₂.slotsUsed } : State).setVm s₂.vm), Ls ++ L, c0 + mc, s0 + ms⟩,
      ⟨X.admits, X.cas, X.clock, X.frames, X.room, X.hears, X.method, X.code, (X.here.setHeapUsed s₂.heap s₂.slotsUsed).setVm hW'.alike, X.tail, State.WarmedH.trans X.warmed hW', X.limits, X.bytes, X.same.trans (hsame.setVm s.vm)⟩,
      ⟨g, mk, s₂, L, E, ce, rfl, rfl, hx, hce, hcv, hcl, rfl, hL, rfl, rfl⟩, ?_⟩
    show Steps p.tables e below _ (((({ U with heap := s₂.heap, slotsUsed := s₂.slotsUsed } : State).setVm s₂.vm).setTop g).pushFrame (.throwing q))
    rw [← hs₂]
    exact hsteps
end Payer
section Calls
variable {p : Program} {l : Launch} {e : Env} {R : Room} {s : State} {m : MethodId} {args : Array Value} {below : List Frame} {meth : Method} {c : Code} {T : State} {locs : List Loc} {cells slots : Nat}
theorem vx_callV (X : Stand p l e R s m args below meth c T locs cells slots) (hexec : p.tables.exec = Jvm.exec) {own C : String} {index : Nat} {y : MethodName} {bytes : ByteArray} {maxL : Nat} {ret : Option FieldType}
    (hown : s.vm.findClass own = some m.cls) (hlink : (Cond.methodLink own index y).before args s = true) (hinst : (Cond.instanceMethod y).before args s = true) (hsel : (Cond.selects C y y).before args s = true)
    (hcode : (Cond.code y bytes maxL ret).before args s = true) (hy : y.cls ≠ "java/lang/invoke/MethodHandle" ∧ y.cls ≠ "java/lang/invoke/VarHandle")
    {W9 : Nat} {Pre : Pt → Array Value → Prop} {Post : Pt → Array Value → Option Value → Pt → Prop} {PostX : Pt → Array Value → Addr → Pt → Prop} (hK : vx_Back l R p e below s args y 3 W9 Pre Post PostX)
    {b : Addr} {cellB : Cell} (hcell : T.heap[b]? = some cellB) (hobj : cellB.vm.isStatics = false) (hcls : s.vm.findClass C = some cellB.cls)
    {g : JFrame} (hg : g.method = m) (hsize : g.locals.size = c.maxLocals) {argsL rest : List Value} (hlen : ∀ sig, parseMethodDescriptor y.desc = some sig → argsL.length = sig.parameters.length)
    (hstack : g.stack = argsL.reverse ++ .ref b :: rest) (hW : 2 * g.monitorRoom + (rest.map fun v => v.category).sum ≤ W9) (hdg : decode c.code g.pc = .ok (.invokevirtual index, 3))
    (hpre : ∀ vm₁, s.WarmedH vm₁ → Pre ⟨T.setVm vm₁, locs, cells, slots⟩ (Value.ref b :: argsL).toArray) :
    (∃ (v : Option Value) (vm₁ : Vm) (B : Pt), s.WarmedH vm₁ ∧ Stand p l e R s m args below meth c B.U B.locs B.cells B.slots ∧ Post ⟨T.setVm vm₁, locs, cells, slots⟩ (Value.ref b :: argsL).toArray v B ∧
      ∀ target, Steps p.tables e below (B.U.setTop { g with pc := g.pc + 3, stack := v.toList ++ rest }) target → Steps p.tables e below (T.setTop g) target) ∨
    (∃ (q : Addr) (vm₁ : Vm) (B : Pt), s.WarmedH vm₁ ∧ Stand p l e R s m args below meth c B.U B.locs B.cells B.slots ∧ PostX ⟨T.setVm vm₁, locs, cells, slots⟩ (Value.ref b :: argsL).toArray q B ∧
      Steps p.tables e below (T.setTop g) ((B.U.setTop { g with stack := rest }).pushFrame (.throwing q))) := by
  obtain ⟨mk, methM, hnamed, hmethM, hstM, habM⟩ := Cond.instanceMethod_spec hinst
  obtain ⟨methM', cM, hmethM', -, -, -, -, -, -, hsigM⟩ := Cond.code_spec hnamed hcode
  cases hmethM.symm.trans hmethM'
  obtain ⟨c2, r2, m2, q1, q2, q3, q4, kP, hkP, hkPi⟩ := Cond.selects_spec hsel
  cases hcls.symm.trans q1
  cases (State.methodFound?_of_named hnamed hy).symm.trans q2
  cases hnamed.symm.trans q3
  have hselP : selectMethod e.platform s.vm cellB.cls mk = .method mk := by rw [Launch.admits_selectMethod X.admits]; exact q4
  obtain ⟨vm₁, X₁, hstep₁⟩ := X.invokevirtual hexec hown hlink hnamed hmethM hstM hkP hkPi hy (a := b) (cell := cellB) hcell
    (fun z h => by rw [h] at hobj; cases hobj) hselP hmethM habM hkP hkPi (g := g) hg (argsL := argsL) (rest := rest) (hlen _ hsigM) hstack hdg
  rcases hK m meth c ⟨T.setVm vm₁, locs, cells, slots⟩ { g with stack := rest } (.invokevirtual index) mk (Value.ref b :: argsL).toArray X₁ hg hsize hdg hW (X₁.named hnamed) (hpre vm₁ X₁.warmed) with ⟨v, B, X', hpost, hsteps⟩ | ⟨q, B, X', hpost, hsteps⟩
  · exact Or.inl ⟨v, vm₁, B, X₁.warmed, X', hpost, fun target h => hstep₁ _ fun acts => by rw [doInvoke_state]; exact hsteps.trans h⟩
  · exact Or.inr ⟨q, vm₁, B, X₁.warmed, X', hpost, hstep₁ _ fun acts => by rw [doInvoke_state]; exact hsteps⟩
theorem vx_callS (X : Stand p l e R s m args below meth c T locs cells slots) (hexec : p.tables.exec = Jvm.exec) {own : String} {index : Nat} {y : MethodName} {bytes : ByteArray} {maxL : Nat} {ret : Option FieldType}
    (hown : s.vm.findClass own = some m.cls) (hlink : (Cond.methodLink own index y).before args s = true) (hstat : (Cond.static y).before args s = true) (hinit : (Cond.initialized y.cls).before args s = true)
    (hcode : (Cond.code y bytes maxL ret).before args s = true) (hy : y.cls ≠ "java/lang/invoke/MethodHandle" ∧ y.cls ≠ "java/lang/invoke/VarHandle")
    {W9 : Nat} {Pre : Pt → Array Value → Prop} {Post : Pt → Array Value → Option Value → Pt → Prop} {PostX : Pt → Array Value → Addr → Pt → Prop} (hK : vx_Back l R p e below s args y 3 W9 Pre Post PostX)
    {g : JFrame} (hg : g.method = m) (hsize : g.locals.size = c.maxLocals) {argsL rest : List Value} (hlen : ∀ sig, parseMethodDescriptor y.desc = some sig → argsL.length = sig.parameters.length)
    (hstack : g.stack = argsL.reverse ++ rest) (hW : 2 * g.monitorRoom + (rest.map fun v => v.category).sum ≤ W9) (hdg : decode c.code g.pc = .ok (.invokestatic index, 3))
    (hpre : ∀ vm₁, s.WarmedH vm₁ → Pre ⟨T.setVm vm₁, locs, cells, slots⟩ argsL.toArray) :
    (∃ (v : Option Value) (vm₁ : Vm) (B : Pt), s.WarmedH vm₁ ∧ Stand p l e R s m args below meth c B.U B.locs B.cells B.slots ∧ Post ⟨T.setVm vm₁, locs, cells, slots⟩ argsL.toArray v B ∧
      ∀ target, Steps p.tables e below (B.U.setTop { g with pc := g.pc + 3, stack := v.toList ++ rest }) target → Steps p.tables e below (T.setTop g) target) ∨
    (∃ (q : Addr) (vm₁ : Vm) (B : Pt), s.WarmedH vm₁ ∧ Stand p l e R s m args below meth c B.U B.locs B.cells B.slots ∧ PostX ⟨T.setVm vm₁, locs, cells, slots⟩ argsL.toArray q B ∧
      Steps p.tables e below (T.setTop g) ((B.U.setTop { g with stack := rest }).pushFrame (.throwing q))) := by
  obtain ⟨mk, hnamed⟩ := Cond.code_named hcode
  obtain ⟨methM, cM, hmethM, -, -, -, -, -, -, hsigM⟩ := Cond.code_spec hnamed hcode
  have hstatic : methM.isStatic = true := Cond.static_spec hnamed hmethM hstat
  obtain ⟨kP, hkP, -⟩ := className_of_methodNamed hnamed
  have hinitP : kP.init = .initialized := Cond.initialized_spec (findClass_of_methodNamed hnamed) hkP hinit
  obtain ⟨vm₁, X₁, hstep₁⟩ := X.invokestatic hexec hown hlink hnamed hmethM hstatic hkP hinitP hy (g := g) hg (argsL := argsL) (rest := rest) (hlen _ hsigM) hstack hdg
  rcases hK m meth c ⟨T.setVm vm₁, locs, cells, slots⟩ { g with stack := rest } (.invokestatic index) mk argsL.toArray X₁ hg hsize hdg hW (X₁.named hnamed) (hpre vm₁ X₁.warmed) with ⟨v, B, X', hpost, hsteps⟩ | ⟨q, B, X', hpost, hsteps⟩
  · exact Or.inl ⟨v, vm₁, B, X₁.warmed, X', hpost, fun target h => hstep₁ _ fun acts => by rw [doInvoke_state]; exact hsteps.trans h⟩
  · exact Or.inr ⟨q, vm₁, B, X₁.warmed, X', hpost, hstep₁ _ fun acts => by rw [doInvoke_state]; exact hsteps⟩
end Calls
theorem vx_cls {s : State} {T : State} {vm₁ : Vm} {E : String} {k : ClassId} (hW : s.WarmedH vm₁) (h : (T.setVm vm₁).vm.findClass E = some k) : s.vm.findClass E = some k := by
  have h1 : vm₁.findClass E = some k := h
  rw [hW.alike.findClass] at h1
  exact h1
/-- the method's frame g, with q thrown over it -/
def vx_W (p : Program) (l : Launch) (e : Env) (R : Room) (s : State) (m : MethodId) (args : Array Value) (below : List Frame) (meth : Method) (c : Code) (H : Heap) (locs : List Loc) (cells slots : Nat) (Q : State → Prop) (g : JFrame) (q : Addr) : Prop :=
  ∀ T : State, T.heap = H → Stand p l e R s m args below meth c T locs cells slots → ∃ t, Steps p.tables e below ((T.setTop g).pushFrame (.throwing q)) t ∧ Q t
def vx_Run (p : Program) (l : Launch) (e : Env) (R : Room) (s : State) (m : MethodId) (args : Array Value) (below : List Frame) (meth : Method) (c : Code) (H : Heap) (locs : List Loc) (cells slots mc ms : Nat) (g : JFrame) (rest : List Value) (Qa : State → Outcome → State → Prop) (XC : String → State → State → Prop) (free : Addr → Prop) : Prop :=
  ∀ T : State, T.heap = H → Stand p l e R s m args below meth c T locs cells slots →
    (∃ (v : Option Value) (st₀ t T' : State) (L : List Loc), st₀.heap = H ∧ Stand p l e R s m args below meth c T' (locs ++ L) (cells + mc) (slots + ms) ∧ (∀ q ∈ L, free q.base) ∧ T'.heap = t.heap ∧ T'.vm = t.vm ∧ Qa st₀ (.returned v) t ∧
      Goes p e below T g T' { g with pc := g.pc + 3, stack := v.toList ++ rest }) ∨
    (∃ (q : Addr) (st₀ t T' : State) (L : List Loc) (E : String) (ce : Cell), st₀.heap = H ∧ Stand p l e R s m args below meth c T' (locs ++ L) (cells + mc) (slots + ms) ∧ (∀ z ∈ L, free z.base) ∧ T'.heap = t.heap ∧ T'.vm = t.vm ∧ XC E st₀ t ∧ t.heap[q]? = some ce ∧ ce.vm = .none ∧ s.vm.findClass E = some ce.cls ∧
      Steps p.tables e below (T.setTop g) ((T'.setTop { g with stack := rest }).pushFrame (.throwing q)))
def vx_X {S : Type} (px : S → Prop) (B : String → S → State → Prop) (A : Nat → Prop) : String → State → State → Prop := fun E st t => ∃ u : S, px u ∧ B E u t ∧ va_F A st t
section Runs
variable {p : Program} {l : Launch} {e : Env} {R : Room} {s : State} {m : MethodId} {args : Array Value} {below : List Frame} {meth : Method} {c : Code} {H : Heap} {locs : List Loc} {cells slots : Nat}
variable {y : MethodName} {bytes cc : ByteArray} {maxL nL mc ms n index : Nat} {ret : Option FieldType} {ws : List Cond} {rm : Room} {Pc : Array Value → State → Prop} {Qc : Array Value → State → Outcome → State → Prop} {XC : String → State → State → Prop} {free : Addr → Prop} {Ts : List Cond} {own C : String} {b : Addr} {As rest : List Value} {g : JFrame}
theorem vx_callBack (cb : CallB R s args own index y bytes maxL ret ws rm mc ms n) (hM : vx_Met l y ws rm Pc Qc XC mc ms free) (hbl : FrameBlind Pc) : vx_Back l R p e below s args y 3 8 (PreOf R mc ms Pc) (PostOf Qc mc ms free) (vx_Post XC mc ms free) := by
  obtain ⟨hrc, hrs, hfr, hlo, hws, hcw, -, hini, -⟩ := cb
  exact vx_back (bytes := bytes) (maxL := maxL) (ret := ret) hM hbl hrc hrs hfr hlo hws hcw (fun a' U hW => word_at hW (Or.inl (by first | rfl | simp [Cond.onTables, Cond.keeps, Cond.steady])) hini)
theorem vx_runV (S : CallFix p m c cc nL s args Ts own) (hM : vx_Met l y ws rm Pc Qc XC mc ms free) (cw : CallW R s args own C index y bytes maxL ret ws rm mc ms n) (hp : PreV s H C b Pc As)
    (hg : g.method = m) (hn : As.length = n) (hsize : g.locals.size = nL) (hstack : g.stack = As.reverse ++ .ref b :: rest) (hW : 2 * g.monitorRoom + (rest.map fun v => v.category).sum ≤ 8) (hdg : decode cc g.pc = .ok (.invokevirtual index, 3)) (hf : cells + mc ≤ R.cells ∧ slots + ms ≤ R.slots) :
    vx_Run p l e R s m args below meth c H locs cells slots mc ms g rest (Qc (Value.ref b :: As).toArray) XC free := by
  have hK : vx_Back l R p e below s args y 3 8 (PreOf R mc ms Pc) (PostOf Qc mc ms free) (vx_Post XC mc ms free) := vx_callBack cw.1 hM hp.1
  obtain ⟨⟨-, -, -, -, -, -, hcode, -, hy, hlen, hl⟩, hin, hse⟩ := cw
  obtain ⟨hx, hb, hml, ho, -⟩ := S
  obtain ⟨-, ⟨cellB, hcB, hoB, hclB⟩, hPc⟩ := hp
  intro T hT X
  rcases vx_callV X hx (C := C) (bytes := bytes) (maxL := maxL) (ret := ret) ho hl hin hse hcode hy hK (by rw [hT]; exact hcB) hoB hclB hg (hsize.trans hml.symm) (argsL := As) (rest := rest) (fun sig h => hn.trans (hlen sig h)) hstack hW (by rw [hb]; exact hdg)
    (fun vm₁ hW₁ => ⟨hf.1, hf.2, hPc (T.setVm vm₁) hT hW₁⟩) with ⟨v, vm₁, ⟨U', l2, c2, s2⟩, hW₁, X', ⟨g', mk, t, L, e1, e2, hq, h1, hL, h2, h3⟩, st⟩ | ⟨q, vm₁, ⟨U', l2, c2, s2⟩, hW₁, X', ⟨g', mk, t, L, E, ce, e1, e2, hq, hce, hcv, hcl, h1, hL, h2, h3⟩, st⟩
  · dsimp only [Pt.U, Pt.locs, Pt.cells, Pt.slots] at X' e1 e2 h1 h2 h3 st
    subst h1; subst h2; subst h3
    exact Or.inl ⟨v, (T.setVm vm₁).calling g' mk (Value.ref b :: As).toArray, t, U', L, hT, X', hL, e1, e2, hq, st⟩
  · dsimp only [Pt.U, Pt.locs, Pt.cells, Pt.slots] at X' e1 e2 h1 h2 h3 st hcl
    subst h1; subst h2; subst h3
    exact Or.inr ⟨q, (T.setVm vm₁).calling g' mk (Value.ref b :: As).toArray, t, U', L, E, ce, hT, X', hL, e1, e2, hq, hce, hcv, vx_cls hW₁ hcl, st⟩
theorem vx_runS (S : CallFix p m c cc nL s args Ts own) (hM : vx_Met l y ws rm Pc Qc XC mc ms free) (cw : CallB R s args own index y bytes maxL ret ws rm mc ms n ∧ (Cond.static y).before args s = true) (hp : PreS s H Pc As)
    (hg : g.method = m) (hn : As.length = n) (hsize : g.locals.size = nL) (hstack : g.stack = As.reverse ++ rest) (hW : 2 * g.monitorRoom + (rest.map fun v => v.category).sum ≤ 8) (hdg : decode cc g.pc = .ok (.invokestatic index, 3)) (hf : cells + mc ≤ R.cells ∧ slots + ms ≤ R.slots) :
    vx_Run p l e R s m args below meth c H locs cells slots mc ms g rest (Qc As.toArray) XC free := by
  have hK : vx_Back l R p e below s args y 3 8 (PreOf R mc ms Pc) (PostOf Qc mc ms free) (vx_Post XC mc ms free) := vx_callBack cw.1 hM hp.1
  obtain ⟨⟨-, -, -, -, -, -, hcode, hini, hy, hlen, hl⟩, hstt⟩ := cw
  obtain ⟨hx, hb, hml, ho, -⟩ := S
  intro T hT X
  rcases vx_callS X hx (bytes := bytes) (maxL := maxL) (ret := ret) ho hl hstt hini hcode hy hK hg (hsize.trans hml.symm) (argsL := As) (rest := rest) (fun sig h => hn.trans (hlen sig h)) hstack hW (by rw [hb]; exact hdg)
    (fun vm₁ hW₁ => ⟨hf.1, hf.2, hp.2 (T.setVm vm₁) hT hW₁⟩) with ⟨v, vm₁, ⟨U', l2, c2, s2⟩, hW₁, X', ⟨g', mk, t, L, e1, e2, hq, h1, hL, h2, h3⟩, st⟩ | ⟨q, vm₁, ⟨U', l2, c2, s2⟩, hW₁, X', ⟨g', mk, t, L, E, ce, e1, e2, hq, hce, hcv, hcl, h1, hL, h2, h3⟩, st⟩
  · dsimp only [Pt.U, Pt.locs, Pt.cells, Pt.slots] at X' e1 e2 h1 h2 h3 st
    subst h1; subst h2; subst h3
    exact Or.inl ⟨v, (T.setVm vm₁).calling g' mk As.toArray, t, U', L, hT, X', hL, e1, e2, hq, st⟩
  · dsimp only [Pt.U, Pt.locs, Pt.cells, Pt.slots] at X' e1 e2 h1 h2 h3 st hcl
    subst h1; subst h2; subst h3
    exact Or.inr ⟨q, (T.setVm vm₁).calling g' mk As.toArray, t, U', L, E, ce, hT, X', hL, e1, e2, hq, hce, hcv, vx_cls hW₁ hcl, st⟩
end Runs
section Rows
variable {p : Program} {l : Launch} {e : Env} {R : Room} {s : State} {m : MethodId} {args : Array Value} {below : List Frame} {meth : Method} {c : Code} {H : Heap} {locs : List Loc} {cells slots : Nat} {Q : State → Prop}
variable {mc ms : Nat} {free : Addr → Prop} {A0 A1 : Nat → Prop} {H0 : Heap} {a : Array Value} {pc : Nat} {ls : Array Slot} {st0 rest : List Value}
theorem vx_keep {st₀ t T' : State} {L : List Loc} (h0 : st₀.heap = H) (e1 : T'.heap = t.heap) (hS : va_S A0 H0 H locs) (hA : ∀ q, q < H.size → A1 q → A0 q) (hf : ∀ q, free q → A0 q) (hL : ∀ q ∈ L, free q.base) (hF : va_F A1 st₀ t) :
    H.size ≤ T'.heap.size ∧ (∀ q : Nat, q < H.size → ¬ A1 q → T'.heap[q]? = H[q]?) ∧ va_S A0 H0 T'.heap (locs ++ L) := by
  obtain ⟨hz, hk⟩ := hF
  rw [h0] at hz hk
  exact ⟨by rw [e1]; exact hz, fun q h1 h2 => by rw [e1]; exact hk q h1 h2,
    ⟨Nat.le_trans hS.1 (by rw [e1]; exact hz), fun q h1 h2 => by rw [e1, hk q (Nat.lt_of_lt_of_le h1 hS.1) (fun z => h2 (hA q (Nat.lt_of_lt_of_le h1 hS.1) z))]; exact hS.2.1 q h1 h2, fun q hq => by
      rcases List.mem_append.mp hq with h | h
      · exact hS.2.2 q h
      · exact hf _ (hL q h)⟩⟩
theorem vx_calli {S SX : Type} {post : Int32 → S → Prop} {px : SX → Prop} {B : S → State → Prop} {BX : String → SX → State → Prop} {AX : Nat → Prop} (hr : vx_Run p l e R s m args below meth c H locs cells slots mc ms (F0 m pc ls st0) rest (va_Qi post B A1 a) (vx_X px BX AX) free) (hS : va_S A0 H0 H locs) (hA : ∀ q, q < H.size → A1 q → A0 q) (hf : ∀ q, free q → A0 q) (hAX : ∀ q, q < H.size → AX q → A0 q)
    (kx : ∀ (E : String) (ce : Cell) (q9 : Addr) (u : SX) (t : State) (H1 : Heap) (locs1 : List Loc), t.heap = H1 → s.vm.Alike t.vm → px u → BX E u t → H.size ≤ H1.size → (∀ q : Nat, q < H.size → ¬ AX q → H1[q]? = H[q]?) → va_S A0 H0 H1 locs1 → H1[q9]? = some ce → ce.vm = .none → s.vm.findClass E = some ce.cls → vx_W p l e R s m args below meth c H1 locs1 (cells + mc) (slots + ms) Q (F0 m pc ls rest) q9)
    (kk : ∀ (r : Int32) (u : S) (t : State) (H1 : Heap) (locs1 : List Loc), t.heap = H1 → s.vm.Alike t.vm → post r u → B u t → H.size ≤ H1.size → (∀ q : Nat, q < H.size → ¬ A1 q → H1[q]? = H[q]?) → va_S A0 H0 H1 locs1 → W p l e R s m args below meth c H1 locs1 (cells + mc) (slots + ms) Q (F0 m (pc + 3) ls (.int r :: rest))) : W p l e R s m args below meth c H locs cells slots Q (F0 m pc ls st0) := by
  intro T hT X
  rcases hr T hT X with ⟨v, st₀, t, T', L, h0, X', hL, e1, e2, ⟨⟨r, u, hv, hp, hb⟩, hF⟩, st⟩ | ⟨q, st₀, t, T', L, E, ce, h0, X', hL, e1, e2, ⟨u, hp, hb, hF⟩, hce, hcv, hcl, st⟩
  · cases hv
    obtain ⟨k1, k2, k3⟩ := vx_keep h0 e1 hS hA hf hL hF
    obtain ⟨t2, a1, b1⟩ := kk r u t T'.heap (locs ++ L) e1.symm (by rw [← e2]; exact X'.warmed.alike) hp hb k1 k2 k3 T' rfl X'
    exact ⟨t2, st t2 a1, b1⟩
  · obtain ⟨k1, k2, k3⟩ := vx_keep h0 e1 hS hAX hf hL hF
    obtain ⟨t2, a1, b1⟩ := kx E ce q u t T'.heap (locs ++ L) e1.symm (by rw [← e2]; exact X'.warmed.alike) hp hb k1 k2 k3 (by rw [e1]; exact hce) hcv hcl T' rfl X'
    exact ⟨t2, st.trans a1, b1⟩
theorem vx_calll {S SX : Type} {post : Int64 → S → Prop} {px : SX → Prop} {B : S → State → Prop} {BX : String → SX → State → Prop} {AX : Nat → Prop} (hr : vx_Run p l e R s m args below meth c H locs cells slots mc ms (F0 m pc ls st0) rest (va_Ql post B A1 a) (vx_X px BX AX) free) (hS : va_S A0 H0 H locs) (hA : ∀ q, q < H.size → A1 q → A0 q) (hf : ∀ q, free q → A0 q) (hAX : ∀ q, q < H.size → AX q → A0 q)
    (kx : ∀ (E : String) (ce : Cell) (q9 : Addr) (u : SX) (t : State) (H1 : Heap) (locs1 : List Loc), t.heap = H1 → s.vm.Alike t.vm → px u → BX E u t → H.size ≤ H1.size → (∀ q : Nat, q < H.size → ¬ AX q → H1[q]? = H[q]?) → va_S A0 H0 H1 locs1 → H1[q9]? = some ce → ce.vm = .none → s.vm.findClass E = some ce.cls → vx_W p l e R s m args below meth c H1 locs1 (cells + mc) (slots + ms) Q (F0 m pc ls rest) q9)
    (kk : ∀ (r : Int64) (u : S) (t : State) (H1 : Heap) (locs1 : List Loc), t.heap = H1 → s.vm.Alike t.vm → post r u → B u t → H.size ≤ H1.size → (∀ q : Nat, q < H.size → ¬ A1 q → H1[q]? = H[q]?) → va_S A0 H0 H1 locs1 → W p l e R s m args below meth c H1 locs1 (cells + mc) (slots + ms) Q (F0 m (pc + 3) ls (.long r :: rest))) : W p l e R s m args below meth c H locs cells slots Q (F0 m pc ls st0) := by
  intro T hT X
  rcases hr T hT X with ⟨v, st₀, t, T', L, h0, X', hL, e1, e2, ⟨⟨r, u, hv, hp, hb⟩, hF⟩, st⟩ | ⟨q, st₀, t, T', L, E, ce, h0, X', hL, e1, e2, ⟨u, hp, hb, hF⟩, hce, hcv, hcl, st⟩
  · cases hv
    obtain ⟨k1, k2, k3⟩ := vx_keep h0 e1 hS hA hf hL hF
    obtain ⟨t2, a1, b1⟩ := kk r u t T'.heap (locs ++ L) e1.symm (by rw [← e2]; exact X'.warmed.alike) hp hb k1 k2 k3 T' rfl X'
    exact ⟨t2, st t2 a1, b1⟩
  · obtain ⟨k1, k2, k3⟩ := vx_keep h0 e1 hS hAX hf hL hF
    obtain ⟨t2, a1, b1⟩ := kx E ce q u t T'.heap (locs ++ L) e1.symm (by rw [← e2]; exact X'.warmed.alike) hp hb k1 k2 k3 (by rw [e1]; exact hce) hcv hcl T' rfl X'
    exact ⟨t2, st.trans a1, b1⟩
theorem vx_callf {S SX : Type} {post : UInt32 → S → Prop} {px : SX → Prop} {B : S → State → Prop} {BX : String → SX → State → Prop} {AX : Nat → Prop} (hr : vx_Run p l e R s m args below meth c H locs cells slots mc ms (F0 m pc ls st0) rest (va_Qf post B A1 a) (vx_X px BX AX) free) (hS : va_S A0 H0 H locs) (hA : ∀ q, q < H.size → A1 q → A0 q) (hf : ∀ q, free q → A0 q) (hAX : ∀ q, q < H.size → AX q → A0 q)
    (kx : ∀ (E : String) (ce : Cell) (q9 : Addr) (u : SX) (t : State) (H1 : Heap) (locs1 : List Loc), t.heap = H1 → s.vm.Alike t.vm → px u → BX E u t → H.size ≤ H1.size → (∀ q : Nat, q < H.size → ¬ AX q → H1[q]? = H[q]?) → va_S A0 H0 H1 locs1 → H1[q9]? = some ce → ce.vm = .none → s.vm.findClass E = some ce.cls → vx_W p l e R s m args below meth c H1 locs1 (cells + mc) (slots + ms) Q (F0 m pc ls rest) q9)
    (kk : ∀ (r : UInt32) (u : S) (t : State) (H1 : Heap) (locs1 : List Loc), t.heap = H1 → s.vm.Alike t.vm → post r u → B u t → H.size ≤ H1.size → (∀ q : Nat, q < H.size → ¬ A1 q → H1[q]? = H[q]?) → va_S A0 H0 H1 locs1 → W p l e R s m args below meth c H1 locs1 (cells + mc) (slots + ms) Q (F0 m (pc + 3) ls (.float r :: rest))) : W p l e R s m args below meth c H locs cells slots Q (F0 m pc ls st0) := by
  intro T hT X
  rcases hr T hT X with ⟨v, st₀, t, T', L, h0, X', hL, e1, e2, ⟨⟨r, u, hv, hp, hb⟩, hF⟩, st⟩ | ⟨q, st₀, t, T', L, E, ce, h0, X', hL, e1, e2, ⟨u, hp, hb, hF⟩, hce, hcv, hcl, st⟩
  · cases hv
    obtain ⟨k1, k2, k3⟩ := vx_keep h0 e1 hS hA hf hL hF
    obtain ⟨t2, a1, b1⟩ := kk r u t T'.heap (locs ++ L) e1.symm (by rw [← e2]; exact X'.warmed.alike) hp hb k1 k2 k3 T' rfl X'
    exact ⟨t2, st t2 a1, b1⟩
  · obtain ⟨k1, k2, k3⟩ := vx_keep h0 e1 hS hAX hf hL hF
    obtain ⟨t2, a1, b1⟩ := kx E ce q u t T'.heap (locs ++ L) e1.symm (by rw [← e2]; exact X'.warmed.alike) hp hb k1 k2 k3 (by rw [e1]; exact hce) hcv hcl T' rfl X'
    exact ⟨t2, st.trans a1, b1⟩
theorem vx_calld {S SX : Type} {post : UInt64 → S → Prop} {px : SX → Prop} {B : S → State → Prop} {BX : String → SX → State → Prop} {AX : Nat → Prop} (hr : vx_Run p l e R s m args below meth c H locs cells slots mc ms (F0 m pc ls st0) rest (va_Qd post B A1 a) (vx_X px BX AX) free) (hS : va_S A0 H0 H locs) (hA : ∀ q, q < H.size → A1 q → A0 q) (hf : ∀ q, free q → A0 q) (hAX : ∀ q, q < H.size → AX q → A0 q)
    (kx : ∀ (E : String) (ce : Cell) (q9 : Addr) (u : SX) (t : State) (H1 : Heap) (locs1 : List Loc), t.heap = H1 → s.vm.Alike t.vm → px u → BX E u t → H.size ≤ H1.size → (∀ q : Nat, q < H.size → ¬ AX q → H1[q]? = H[q]?) → va_S A0 H0 H1 locs1 → H1[q9]? = some ce → ce.vm = .none → s.vm.findClass E = some ce.cls → vx_W p l e R s m args below meth c H1 locs1 (cells + mc) (slots + ms) Q (F0 m pc ls rest) q9)
    (kk : ∀ (r : UInt64) (u : S) (t : State) (H1 : Heap) (locs1 : List Loc), t.heap = H1 → s.vm.Alike t.vm → post r u → B u t → H.size ≤ H1.size → (∀ q : Nat, q < H.size → ¬ A1 q → H1[q]? = H[q]?) → va_S A0 H0 H1 locs1 → W p l e R s m args below meth c H1 locs1 (cells + mc) (slots + ms) Q (F0 m (pc + 3) ls (.double r :: rest))) : W p l e R s m args below meth c H locs cells slots Q (F0 m pc ls st0) := by
  intro T hT X
  rcases hr T hT X with ⟨v, st₀, t, T', L, h0, X', hL, e1, e2, ⟨⟨r, u, hv, hp, hb⟩, hF⟩, st⟩ | ⟨q, st₀, t, T', L, E, ce, h0, X', hL, e1, e2, ⟨u, hp, hb, hF⟩, hce, hcv, hcl, st⟩
  · cases hv
    obtain ⟨k1, k2, k3⟩ := vx_keep h0 e1 hS hA hf hL hF
    obtain ⟨t2, a1, b1⟩ := kk r u t T'.heap (locs ++ L) e1.symm (by rw [← e2]; exact X'.warmed.alike) hp hb k1 k2 k3 T' rfl X'
    exact ⟨t2, st t2 a1, b1⟩
  · obtain ⟨k1, k2, k3⟩ := vx_keep h0 e1 hS hAX hf hL hF
    obtain ⟨t2, a1, b1⟩ := kx E ce q u t T'.heap (locs ++ L) e1.symm (by rw [← e2]; exact X'.warmed.alike) hp hb k1 k2 k3 (by rw [e1]; exact hce) hcv hcl T' rfl X'
    exact ⟨t2, st.trans a1, b1⟩
theorem vx_callv {S SX : Type} {post : S → Prop} {px : SX → Prop} {B : S → State → Prop} {BX : String → SX → State → Prop} {AX : Nat → Prop} (hr : vx_Run p l e R s m args below meth c H locs cells slots mc ms (F0 m pc ls st0) rest (va_Qv post B A1 a) (vx_X px BX AX) free) (hS : va_S A0 H0 H locs) (hA : ∀ q, q < H.size → A1 q → A0 q) (hf : ∀ q, free q → A0 q) (hAX : ∀ q, q < H.size → AX q → A0 q)
    (kx : ∀ (E : String) (ce : Cell) (q9 : Addr) (u : SX) (t : State) (H1 : Heap) (locs1 : List Loc), t.heap = H1 → s.vm.Alike t.vm → px u → BX E u t → H.size ≤ H1.size → (∀ q : Nat, q < H.size → ¬ AX q → H1[q]? = H[q]?) → va_S A0 H0 H1 locs1 → H1[q9]? = some ce → ce.vm = .none → s.vm.findClass E = some ce.cls → vx_W p l e R s m args below meth c H1 locs1 (cells + mc) (slots + ms) Q (F0 m pc ls rest) q9)
    (kk : ∀ (u : S) (t : State) (H1 : Heap) (locs1 : List Loc), t.heap = H1 → s.vm.Alike t.vm → post u → B u t → H.size ≤ H1.size → (∀ q : Nat, q < H.size → ¬ A1 q → H1[q]? = H[q]?) → va_S A0 H0 H1 locs1 → W p l e R s m args below meth c H1 locs1 (cells + mc) (slots + ms) Q (F0 m (pc + 3) ls (rest))) : W p l e R s m args below meth c H locs cells slots Q (F0 m pc ls st0) := by
  intro T hT X
  rcases hr T hT X with ⟨v, st₀, t, T', L, h0, X', hL, e1, e2, ⟨⟨u, hv, hp, hb⟩, hF⟩, st⟩ | ⟨q, st₀, t, T', L, E, ce, h0, X', hL, e1, e2, ⟨u, hp, hb, hF⟩, hce, hcv, hcl, st⟩
  · cases hv
    obtain ⟨k1, k2, k3⟩ := vx_keep h0 e1 hS hA hf hL hF
    obtain ⟨t2, a1, b1⟩ := kk u t T'.heap (locs ++ L) e1.symm (by rw [← e2]; exact X'.warmed.alike) hp hb k1 k2 k3 T' rfl X'
    exact ⟨t2, st t2 a1, b1⟩
  · obtain ⟨k1, k2, k3⟩ := vx_keep h0 e1 hS hAX hf hL hF
    obtain ⟨t2, a1, b1⟩ := kx E ce q u t T'.heap (locs ++ L) e1.symm (by rw [← e2]; exact X'.warmed.alike) hp hb k1 k2 k3 (by rw [e1]; exact hce) hcv hcl T' rfl X'
    exact ⟨t2, st.trans a1, b1⟩
/-- caught by the row x of this method's table; the rows ahead don't take it -/
theorem vx_catch {own name : String} {E : String} {ce : Cell} {q : Addr} (hown : s.vm.findClass own = some m.cls) (pre : List ExceptionTableEntry) (x : ExceptionTableEntry) (suf : List ExceptionTableEntry) (hsplit : c.exceptionTable.toList = pre ++ x :: suf)
    (hpass : ∀ z ∈ pre, covers z pc = false ∨ (z.catchType ≠ 0 ∧ ∃ nm : String, (Cond.classLink own z.catchType nm).before args s = true ∧ va_Nc E nm s)) (hx : covers x pc = true) (h0 : x.catchType ≠ 0)
    (hlink : (Cond.classLink own x.catchType name).before args s = true) (hcast : (Cond.castable E name).before args s = true) (hcell : H[q]? = some ce) (hv : ce.vm = .none) (hcl : s.vm.findClass E = some ce.cls)
    (kk : W p l e R s m args below meth c H locs cells slots Q (F0 m x.handlerPc ls [.ref q])) : vx_W p l e R s m args below meth c H locs cells slots Q (F0 m pc ls rest) q := by
  intro T hT X
  have hpl : e.platform.magicAccessors = ({} : Platform).magicAccessors := by rw [X.admits.platform]
  obtain ⟨c3, c4, hc3, hc4, hasg⟩ := Cond.castable_spec hcast
  cases Option.some.inj (hc3.symm.trans hcl)
  obtain ⟨c5, hc5, hcl5⟩ := Cond.classLink_spec hown hlink e.platform hpl
  cases Option.some.inj (hc4.symm.trans hc5)
  obtain ⟨vm', X', st⟩ := X.thenCaughtThrough q (g := F0 m pc ls rest) rfl (Steps.refl _) (by rw [hT]; exact hcell) (by rw [hv]; rfl) (by obtain ⟨k9, h9, -⟩ := Vm.findClass_spec hcl; exact ⟨k9, h9⟩) pre x suf hsplit
    (fun z hz => by
      rcases hpass z hz with h | ⟨hz0, nm, hl1, hn1⟩
      · exact Or.inl h
      · obtain ⟨c6, hc6, hcl6⟩ := Cond.classLink_spec hown hl1 e.platform hpl
        obtain ⟨a8, b8, h1, h2, h3⟩ := hn1
        cases Option.some.inj (h1.symm.trans hcl)
        cases Option.some.inj (h2.symm.trans hc6)
        exact Or.inr ⟨hz0, _, hcl6, h3⟩) hx (Or.inr ⟨h0, c4, hcl5, hasg⟩)
  obtain ⟨t, a1, b1⟩ := kk (T.setVm vm') hT X'
  exact ⟨t, st.trans a1, b1⟩
end Rows
section Ends
variable {p : Program} {l : Launch} {e : Env} {R : Room} {s : State} {m : MethodId} {args : Array Value} {below : List Frame} {meth : Method} {c : Code} {H : Heap} {locs : List Loc} {cells slots : Nat} {Q : State → Prop}
variable {mc ms : Nat} {free : Addr → Prop} {A0 A1 : Nat → Prop} {H0 : Heap} {a : Array Value} {ls : Array Slot} {st0 rest : List Value}
variable {Qc : Array Value → State → Outcome → State → Prop} {XC : String → State → State → Prop}
/-- what a body that may throw owes at its end -/
def vx_MQ (below : List Frame) (Qc : Array Value → State → Outcome → State → Prop) (XC : String → State → State → Prop) (a : Array Value) (s : State) (mc ms : Nat) (free : Addr → Prop) : State → Prop := fun t =>
  ∃ o, t.status = .running ∧ Ended t below o ∧ vx_Q Qc XC mc ms free a s o t
theorem vx_ret {g : JFrame} {mc ms : Nat} (k : W p l e R s m args below meth c H locs cells slots (MQ below Qc args s mc ms free) g) : W p l e R s m args below meth c H locs cells slots (vx_MQ below Qc XC args s mc ms free) g := by
  intro T hT X
  obtain ⟨t, a1, o, b1, b2, b3, b4⟩ := k T hT X
  exact ⟨t, a1, o, b1, b2, Or.inl ⟨b3, b4⟩⟩
/-- not caught here: it goes on to the caller -/
theorem vx_widen {g : JFrame} {q : Addr} {k n : Nat} (h1 : cells ≤ k) (h2 : slots ≤ n) (kk : vx_W p l e R s m args below meth c H locs k n Q g q) : vx_W p l e R s m args below meth c H locs cells slots Q g q := fun T hT X => kk T hT (stand_widen X h1 h2)
theorem vx_out {pc : Nat} {E : String} {ce : Cell} {q : Addr} {mc ms : Nat} (hout : ∀ x ∈ c.exceptionTable.toList, covers x pc = false) (hlocks : meth.locks = false) (hcell : H[q]? = some ce) (hv : ce.vm = .none) (hcl : s.vm.findClass E = some ce.cls)
    (hx : ∀ t : State, t.heap = H → s.vm.Alike t.vm → XC E s t) (hf : ∀ z ∈ locs, free z.base) (hc : cells ≤ mc) (hs : slots ≤ ms) :
    vx_W p l e R s m args below meth c H locs cells slots (vx_MQ below Qc XC args s mc ms free) (F0 m pc ls rest) q := by
  intro T hT X
  obtain ⟨st1, hrun, hend, hW, hsm⟩ := X.leaveThrown q (g := F0 m pc ls rest) rfl rfl rfl hout hlocks
  have hcell9 : (T.setFrames (.throwing q :: below)).heap[q]? = some ce := by
    show T.heap[q]? = some ce
    rw [hT]; exact hcell
  exact ⟨_, st1, .threw q, hrun, hend, Or.inr ⟨q, rfl, E, ce, locs, hx _ hT hW.alike, hcell9, hv, hcl, hW, hsm.mono hc hs, hf⟩⟩
theorem vx_frame {U : State} {k n : Nat} (h : s.sameButNew ({ U with vm := s.vm } : State) locs k n) : s.heap.size ≤ U.heap.size ∧ ∀ q : Nat, q < s.heap.size → (∀ z ∈ locs, z.base ≠ q) → U.heap[q]? = s.heap[q]? := by
  obtain ⟨-, h2, -, -, -, h6⟩ := h
  refine ⟨h2, fun q hq hz => ?_⟩
  obtain ⟨c9, e1, e2, e3, e4⟩ := h6 q _ (Array.getElem?_eq_getElem hq)
  have hs : c9.slots = (s.heap[q]).slots := Array.ext_getElem? fun i => e4 i fun hm => hz _ hm rfl
  have h9 : c9 = s.heap[q] := by
    rw [hs] at e2
    exact e2
  have e5 : U.heap[q]? = some c9 := e1
  rw [e5, h9, Array.getElem?_eq_getElem hq]
/-- the words of a throw but the four that speak of the heap -/
def vx_no (w : Cond) : Bool := decide (w ≠ .isRef (.static Bundle.tN "UNASSIGNED_STACK" Bundle.steD)) && decide (w ≠ .isRef (.static Bundle.tN "SUPPRESSED_SENTINEL" Bundle.listD)) && decide (w ≠ .laysStatic Bundle.tN "UNASSIGNED_STACK" Bundle.steD) && decide (w ≠ .laysStatic Bundle.tN "SUPPRESSED_SENTINEL" Bundle.listD)
def vx_at0 (own : String) (ic : Nat) (X : String) (names : List String) : List Cond := (Bundle.ownAtoms0 own ic X names).filter vx_no
def vx_atS (own : String) (ic : Nat) (X : String) (names : List String) : List Cond := (Bundle.ownAtoms own ic X names).filter vx_no
/-- a word that the tables alone decide, or a good one -/
def vx_ot (w : Cond) : Bool := w.onTables || goodWord w
theorem vx_ot_at {args a' : Array Value} {s U : State} {w : Cond} (hW : s.WarmedH U.vm) (hvm : s.vm = U.vm) (hg : vx_ot w = true) (h : w.before args s = true) : w.before a' U = true := by
  simp only [vx_ot, Bool.or_eq_true] at hg
  rcases hg with hg | hg
  · exact va_tabs hg hvm h
  · exact word_at hW (good_of_word hg) h
/-- a list's words: the good ones out of the method's own list, the others by premises of their own -/
theorem vx_hat {args : Array Value} {s : State} {L B : List Cond} (h1 : ∀ w ∈ L.filter goodWord, w.before args s = true) (h2 : ∀ w ∈ L.filter (fun w => !goodWord w), w ∈ B) (h3 : ∀ w ∈ B, w.before args s = true) : ∀ w ∈ L, w.before args s = true := by
  intro w hw
  by_cases g : goodWord w = true
  · exact h1 w (List.mem_filter.mpr ⟨hw, g⟩)
  · refine h3 w (h2 w (List.mem_filter.mpr ⟨hw, ?_⟩))
    show (!goodWord w) = true
    cases hgw : goodWord w
    · rfl
    · exact absurd hgw g
theorem vx_c {args : Array Value} {s : State} {w : Cond} {B : List Cond} (h : w.before args s = true) (t : ∀ w ∈ B, w.before args s = true) : ∀ w' ∈ w :: B, w'.before args s = true := fun w' h' => (List.mem_cons.mp h').elim (fun e => by rw [e]; exact h) (t w')
theorem vx_n {args : Array Value} {s : State} : ∀ w ∈ ([] : List Cond), w.before args s = true := fun _ h => nomatch h
theorem vx_own {args : Array Value} {s : State} {L : List Cond} (h1 : ∀ w ∈ L.filter vx_no, w.before args s = true)
    (hU : (Cond.isRef (.static Bundle.tN "UNASSIGNED_STACK" Bundle.steD)).before args s = true) (hN : (Cond.isRef (.static Bundle.tN "SUPPRESSED_SENTINEL" Bundle.listD)).before args s = true)
    (lU : (Cond.laysStatic Bundle.tN "UNASSIGNED_STACK" Bundle.steD).before args s = true) (lN : (Cond.laysStatic Bundle.tN "SUPPRESSED_SENTINEL" Bundle.listD).before args s = true) : ∀ w ∈ L, w.before args s = true := by
  intro w hw
  by_cases e1 : w = .isRef (.static Bundle.tN "UNASSIGNED_STACK" Bundle.steD)
  · rw [e1]; exact hU
  · by_cases e2 : w = .isRef (.static Bundle.tN "SUPPRESSED_SENTINEL" Bundle.listD)
    · rw [e2]; exact hN
    · by_cases e3 : w = .laysStatic Bundle.tN "UNASSIGNED_STACK" Bundle.steD
      · rw [e3]; exact lU
      · by_cases e4 : w = .laysStatic Bundle.tN "SUPPRESSED_SENTINEL" Bundle.listD
        · rw [e4]; exact lN
        · exact h1 w (List.mem_filter.mpr ⟨hw, by unfold vx_no; rw [decide_eq_true e1, decide_eq_true e2, decide_eq_true e3, decide_eq_true e4]; rfl⟩)
/-- where a static field lies, its class's statics cell in H -/
def vx_L (C n d : String) (A : Nat → Prop) (U : State) (H : Heap) : Prop := ∃ (c : ClassId) (k : Class) (i : Nat) (f : Field) (a : Nat) (cell : Cell), U.vm.findClass C = some c ∧ U.fieldFound? C n d = some (c, k, i, f) ∧ f.isStatic = true ∧ k.statics = some a ∧ H[a]? = some cell ∧ cell.vm.isStatics = true ∧ cell.cls = c ∧ f.slot < cell.slots.size ∧ k.staticTypes[f.slot]? = some f.type ∧ ¬ A a
theorem vx_L.moved {C n d : String} {A : Nat → Prop} {u U : State} {H : Heap} (hvm : u.vm.Alike U.vm) (h : vx_L C n d A u H) : vx_L C n d A U H := by
  obtain ⟨c, k, i, f, a, cell, h1, h2, h3, h4, h5, h6, h7, h8, h9, h10⟩ := h
  obtain ⟨k', hi', he⟩ := State.fieldFound?_setVm hvm h2
  exact ⟨c, k', i, f, a, cell, by rw [hvm.findClass]; exact h1, hi', h3, by rw [he]; exact h4, h5, h6, h7, h8, by rw [he]; exact h9, h10⟩
theorem vx_L.kept {C n d : String} {A : Nat → Prop} {U : State} {H H1 : Heap} (h : vx_L C n d A U H) (hq : ∀ a : Nat, a < H.size → ¬ A a → H1[a]? = H[a]?) : vx_L C n d A U H1 := by
  obtain ⟨c, k, i, f, a, cell, h1, h2, h3, h4, h5, h6, h7, h8, h9, h10⟩ := h
  exact ⟨c, k, i, f, a, cell, h1, h2, h3, h4, by rw [hq a (Array.getElem?_eq_some_iff.mp h5).1 h10]; exact h5, h6, h7, h8, h9, h10⟩
theorem vx_L.narrow {C n d : String} {A B : Nat → Prop} {U : State} {H : Heap} (h : vx_L C n d A U H) (hAB : ∀ q, B q → A q) : vx_L C n d B U H := by
  obtain ⟨c, k, i, f, a, cell, h1, h2, h3, h4, h5, h6, h7, h8, h9, h10⟩ := h
  exact ⟨c, k, i, f, a, cell, h1, h2, h3, h4, h5, h6, h7, h8, h9, fun z => h10 (hAB _ z)⟩
theorem vx_L.word {C n d : String} {A : Nat → Prop} {s : State} {args : Array Value} (h : vx_L C n d A s s.heap) : (Cond.laysStatic C n d).before args s = true := by
  obtain ⟨c, k, i, f, a, cell, h1, h2, h3, h4, h5, h6, h7, h8, h9, -⟩ := h
  show (Cond.laysStatic C n d).holds args s none s [] = true
  exact Cond.laysStatic_of h1 h2 h3 h4 h5 h6 h7 h8 h9
/-- .. and what it holds: null or some reference -/
def vx_Zq (C n d : String) (A : Nat → Prop) (U : State) (H : Heap) : Prop := va_Zq C n d A U H ∧ vx_L C n d A U H
theorem vx_Zq.moved {C n d : String} {A : Nat → Prop} {u U : State} {H : Heap} (hvm : u.vm.Alike U.vm) (h : vx_Zq C n d A u H) : vx_Zq C n d A U H := ⟨va_Zq.moved hvm h.1, vx_L.moved hvm h.2⟩
theorem vx_Zq.kept {C n d : String} {A : Nat → Prop} {U : State} {H H1 : Heap} (h : vx_Zq C n d A U H) (hq : ∀ a : Nat, a < H.size → ¬ A a → H1[a]? = H[a]?) : vx_Zq C n d A U H1 := ⟨va_Zq.kept h.1 hq, vx_L.kept h.2 hq⟩
theorem vx_Zq.narrow {C n d : String} {A B : Nat → Prop} {U : State} {H : Heap} (h : vx_Zq C n d A U H) (hAB : ∀ q, B q → A q) : vx_Zq C n d B U H := ⟨va_Zq.narrow h.1 hAB, vx_L.narrow h.2 hAB⟩
theorem vx_Zqof {args : Array Value} {s : State} {C n d : String} {A : Nat → Prop} (hl : (Cond.laysStatic C n d).before args s = true) (hini : (Cond.initialized C).before args s = true) (h : (Cond.isRef (.static C n d)).before args s = true) (hA : ∀ a : Nat, a < s.heap.size → ¬ A a) : vx_Zq C n d A s s.heap := by
  refine ⟨va_Zqof hl hini h hA, ?_⟩
  obtain ⟨c, k, i, f, a, cell, h1, h2, h3, h4, h5, h6, h7, h8, h9⟩ := Cond.laysStatic_spec hl
  exact ⟨c, k, i, f, a, cell, h1, h2, h3, h4, h5, h6, h7, h8, h9, hA a (Array.getElem?_eq_some_iff.mp h5).1⟩
theorem vx_isRef {C n d : String} {v : Value} {A : Nat → Prop} {s : State} {args : Array Value} (h : va_Z C n d v A s s.heap) (hv : v.isRef = true) : (Cond.isRef (.static C n d)).before args s = true := by
  obtain ⟨cf, kf, fi, f, a, cell, h1, h2, h3, h4, h5, h6, h7, -⟩ := h
  have he : (Term.static C n d).eval args s none [] s = some v := by
    simp [Term.eval, State.fieldNamed?, h1, h2, h4, h5, h6, h7]
  simp only [Cond.before, Cond.holds, Cond.value, he]
  cases v <;> simp_all [Value.isRef]
theorem vx_isRefq {C n d : String} {A : Nat → Prop} {s : State} {args : Array Value} (h : va_Zq C n d A s s.heap) : (Cond.isRef (.static C n d)).before args s = true := by
  rcases h with h | ⟨t, h⟩
  · exact vx_isRef h rfl
  · exact vx_isRef h rfl
/-- the same frame, seen from here: as if the method were called anew in this heap -/
theorem vx_rebase {T : State} (X : Stand p l e R s m args below meth c T locs cells slots) {R' : Room} (hf : R'.frames ≤ R.frames) (hl : R'.locals ≤ R.locals) (hc : cells + R'.cells ≤ R.cells) (hs : slots + R'.slots ≤ R.slots) :
    Stand p l e R' ((T.setVm s.vm).setFrames (.invoking m args :: below)) m args below meth c T [] 0 0 := by
  have htop : (T.setVm s.vm).topJava?.isSome := X.here.top
  have hF : ((T.setVm s.vm).setFrames (.invoking m args :: below)).frames = .invoking m args :: below := State.frames_setFrames _ (State.cur_lt_of_top htop)
  obtain ⟨g₀, hg0⟩ := Option.isSome_iff_exists.mp htop
  obtain ⟨r, hr⟩ := State.topJava?_eq_some.mp hg0
  have hl9 : e.platform.stackLimits (T.setVm s.vm).me = e.platform.stackLimits s.me := X.limits
  have hb9 : (T.setVm s.vm).me.stackBytes = s.me.stackBytes := X.bytes
  refine ⟨X.admits, X.cas, X.clock, hF, ?_, X.hears, X.method, X.code, X.here, X.tail, X.warmed, ?_, ?_, ?_⟩
  · have h := X.room
    have hU : ((T.setVm s.vm).setFrames (.invoking m args :: below)).localsInUse = s.localsInUse := by
      rw [State.localsInUse_invoking hF (meth := meth) (c := c) X.method X.code, State.localsInUse_invoking X.frames X.method X.code]
    simp only [State.hasRoom, Bool.and_eq_true, decide_eq_true_eq] at h ⊢
    obtain ⟨⟨⟨⟨h1, h2, h3, h4, h5, h6⟩, h7⟩, h8⟩, h9⟩ := h
    rw [X.frames, List.length_cons] at h2 h3
    have q1 := X.heapSize
    have q2 := X.used
    simp only [hF, hU, List.length_cons, State.stackLimits_setFrames, State.stackBytes_setFrames, hl9, hb9]
    refine ⟨⟨⟨⟨by omega, by omega, by omega, by omega, by omega, h6⟩, ?_⟩, ?_⟩, X.book⟩
    · show T.heap.size + R'.cells ≤ e.platform.maxCells
      omega
    · show T.slotsUsed + R'.slots ≤ e.platform.maxSlots
      omega
  · rw [State.stackLimits_setFrames]; rfl
  · rw [State.stackBytes_setFrames]; rfl
  · refine ⟨?_, Nat.le_refl _, Nat.le_refl _, ?_, ?_, fun a c9 h9 => ⟨c9, h9, rfl, rfl, fun _ _ => rfl⟩⟩
    · obtain ⟨t, ht, -⟩ := State.frames_cons hr
      show T.setVm s.vm = { ((T.setVm s.vm).setFrames (.invoking m args :: below)).setFrames (T.setVm s.vm).frames with heap := T.heap, slotsUsed := T.slotsUsed }
      rw [State.setFrames_setFrames, State.setFrames_self ht]
      rfl
    · show T.slotsUsed = T.slotsUsed + ((T.heap.toList.drop T.heap.size).map (·.slots.size)).sum
      rw [List.drop_eq_nil_of_le (Nat.le_of_eq Array.length_toList)]
      rfl
    · show ((T.heap.toList.drop T.heap.size).map (·.slots.size)).sum ≤ 0
      rw [List.drop_eq_nil_of_le (Nat.le_of_eq Array.length_toList)]
      exact Nat.le_refl _
/-- 'throw new E()': new; dup; invokespecial; athrow -/
theorem vx_throw0 {cc : ByteArray} {pc : Nat} (hexec : p.tables.exec = Jvm.exec) (hb : c.code = cc) (hl : l.stackTraces = false) {own cls : String} {names : List String} {ik ic mc ms : Nat} {A : Nat → Prop}
    (hown : s.vm.findClass own = some m.cls) (hcls : Bundle.fit cls = true) (hnames : ∀ n ∈ names, Bundle.fit n = true)
    (hk : (Cond.classLink own ik cls).before args s = true) (hini : (Cond.initialized cls).before args s = true) (hat : ∀ w ∈ vx_at0 own ic cls names, w.before args s = true)
    (hgood : ∀ w ∈ Cond.classLink own ik cls :: Cond.initialized cls :: vx_at0 own ic cls names, vx_ot w = true)
    (hU : vx_Zq Bundle.tN "UNASSIGNED_STACK" Bundle.steD A s s.heap) (hN : vx_Zq Bundle.tN "SUPPRESSED_SENTINEL" Bundle.listD A s s.heap) (hS : va_S A s.heap H locs) (hsize : ls.size = c.maxLocals)
    (d0 : decode cc pc = .ok (.new ik, 3)) (d3 : decode cc (pc + 3) = .ok (.dup, 1)) (d4 : decode cc (pc + 4) = .ok (.invokespecial ic, 3)) (d7 : decode cc (pc + 7) = .ok (.athrow, 1))
    (hout : ∀ x ∈ c.exceptionTable.toList, covers x (pc + 7) = false)
    (hRframes : names.length + 3 < R.frames) (hRlocals : (rest.map fun v => v.category).sum + (13 * (names.length + 1) + 42) ≤ R.locals) (hRcells : cells + 1 ≤ R.cells) (hRslots : slots + 6 ≤ R.slots) (hlocks : meth.locks = false)
    (hx : ∀ t : State, s.vm.Alike t.vm → H.size ≤ t.heap.size → (∀ q : Nat, q < H.size → t.heap[q]? = H[q]?) → XC cls s t)
    (hf : ∀ z ∈ locs, free z.base) (hc : cells + 1 ≤ mc) (hs : slots + 6 ≤ ms) :
    W p l e R s m args below meth c H locs cells slots (vx_MQ below Qc XC args s mc ms free) (F0 m pc ls rest) := by
  intro T hT X
  have htr : e.platform.stackTraces = false := (show e.platform.stackTraces = l.stackTraces by rw [X.admits.platform]).trans hl
  have Y := vx_rebase X (R' := { frames := R.frames, locals := R.locals, cells := 1, slots := 6 }) (Nat.le_refl _) (Nat.le_refl _) hRcells hRslots
  obtain ⟨s', hA⟩ : ∃ z, z = (T.setVm s.vm).setFrames (.invoking m args :: below) := ⟨_, rfl⟩
  rw [← hA] at Y
  have hvm : s'.vm = s.vm := by rw [hA]; rfl
  have hhp : s'.heap = H := by rw [hA]; exact hT
  have hW0 : s.WarmedH s'.vm := by rw [hvm]; exact State.WarmedH.refl s
  have hat' : ∀ w ∈ vx_at0 own ic cls names, w.before args s' = true := fun w hw => vx_ot_at hW0 hvm.symm (hgood w (List.mem_cons_of_mem _ (List.mem_cons_of_mem _ hw))) (hat w hw)
  have hk' : (Cond.classLink own ik cls).before args s' = true := vx_ot_at hW0 hvm.symm (hgood _ List.mem_cons_self) hk
  have hini' : (Cond.initialized cls).before args s' = true := vx_ot_at hW0 hvm.symm (hgood _ (List.mem_cons_of_mem _ List.mem_cons_self)) hini
  have hU' : vx_Zq Bundle.tN "UNASSIGNED_STACK" Bundle.steD A s' s'.heap := by rw [hhp]; exact vx_Zq.moved hW0.alike (hU.kept hS.2.1)
  have hN' : vx_Zq Bundle.tN "SUPPRESSED_SENTINEL" Bundle.listD A s' s'.heap := by rw [hhp]; exact vx_Zq.moved hW0.alike (hN.kept hS.2.1)
  have h : ∀ w ∈ Bundle.ownAtoms0 own ic cls names, w.before args s' = true := vx_own hat' (vx_isRefq hU'.1) (vx_isRefq hN'.1) hU'.2.word hN'.2.word
  have hown' : s'.vm.findClass own = some m.cls := by rw [hvm]; exact hown
  have hins : (Cond.instantiable cls 6).before args s' = true := h _ (by simp [Bundle.ownAtoms0])
  obtain ⟨vm₁, cX, kX, hfX, hkX, -, -, X₁, st1⟩ := Y.newCold hexec (own := own) (C := cls) (index := ik) (n := 6) hown' hk' hins hini'
    (g := F0 m pc ls rest) rfl (by rw [hb]; exact d0) (Nat.le_refl _) (Nat.le_refl _)
  generalize hT1 : (T.setVm vm₁).pushCell { cls := cX, slots := kX.instanceTypes.map defaultValue, vm := .none } = T1 at X₁ st1
  have hcat : (Value.ref T.heap.size).category = 1 := rfl
  have hcellA : T1.heap[T.heap.size]? = some (freshCell cX kX) := by rw [← hT1]; exact State.heap_pushCell_size _ _
  have d3' : decode c.code (pc + 3) = .ok (.dup, 1) := by rw [hb]; exact d3
  obtain ⟨U, hsteps, hrun, hend, hW, hsame, ce, hce, hO⟩ := X₁.ctorThrow0 hexec htr (own := own) (cls := cls) (names := names) (ic := ic) hown' hcls hnames h (fun x hx => nomatch hx) hfX hkX hcellA (by rw [hhp, hT]; exact Nat.le_refl _)
    (g := { method := m, pc := pc + 4, locals := ls, stack := .ref T.heap.size :: .ref T.heap.size :: rest, locked := none }) rfl hsize rfl rfl (rest := rest) rfl
    (by rw [hb]; exact d4) (by rw [hb]; exact d7) hout hRframes (by simp only [List.map_cons, List.sum_cons, hcat]; omega) hlocks
  obtain ⟨f1, f2⟩ := vx_frame hsame
  rw [hhp] at f1 f2
  have hWs : s.WarmedH U.vm := State.WarmedH.trans hW0 hW
  have hcl : s.vm.findClass cls = some ce.cls := by
    have h9 := hO.cls
    rw [hvm] at h9
    exact h9
  have hall : s.sameButNew ({ U with vm := s.vm } : State) locs mc ms := by
    subst hA
    obtain ⟨e1, e2⟩ := hsame
    rw [State.setFrames_setFrames] at e1
    have h2 : (T.setVm s.vm).sameButNew ({ U with vm := s.vm } : State) [] (0 + 1) (0 + 6) := ⟨e1, e2⟩
    have h3 := X.same.trans h2
    rw [List.append_nil] at h3
    exact h3.mono hc hs
  refine ⟨U, ?_, .threw T.heap.size, hrun, hend, Or.inr ⟨T.heap.size, rfl, cls, ce, locs, hx U hWs.alike f1 (fun q hq => f2 q hq (fun z hz => nomatch hz)), hce, hO.vm, hcl, hWs, hall, hf⟩⟩
  refine st1 _ ?_
  show Steps p.tables e below (T1.setTop { method := m, pc := pc + 3, locals := ls, stack := .ref T.heap.size :: rest, locked := none }) _
  jvm_step X₁.here [X₁.here.top, hexec, d3', Value.category]
  exact hsteps
/-- 'throw new E("text")': new; dup; ldc; invokespecial; athrow -/
theorem vx_throwS {cc : ByteArray} {pc : Nat} (hexec : p.tables.exec = Jvm.exec) (hb : c.code = cc) (hl : l.stackTraces = false) {own cls text : String} {names : List String} {ik is ic mc ms sa : Nat} {A : Nat → Prop}
    (hown : s.vm.findClass own = some m.cls) (hcls : Bundle.fit cls = true) (hnames : ∀ n ∈ names, Bundle.fit n = true)
    (hk : (Cond.classLink own ik cls).before args s = true) (hini : (Cond.initialized cls).before args s = true) (hstr : vk_R own is text sa s) (hat : ∀ w ∈ vx_atS own ic cls names, w.before args s = true)
    (hgood : ∀ w ∈ Cond.classLink own ik cls :: Cond.initialized cls :: vx_atS own ic cls names, vx_ot w = true)
    (hU : vx_Zq Bundle.tN "UNASSIGNED_STACK" Bundle.steD A s s.heap) (hN : vx_Zq Bundle.tN "SUPPRESSED_SENTINEL" Bundle.listD A s s.heap) (hS : va_S A s.heap H locs) (hsize : ls.size = c.maxLocals)
    (d0 : decode cc pc = .ok (.new ik, 3)) (d3 : decode cc (pc + 3) = .ok (.dup, 1)) (d4 : decode cc (pc + 4) = .ok (.ldc is, 2)) (d6 : decode cc (pc + 6) = .ok (.invokespecial ic, 3)) (d9 : decode cc (pc + 9) = .ok (.athrow, 1))
    (hout : ∀ x ∈ c.exceptionTable.toList, covers x (pc + 9) = false)
    (hRframes : names.length + 3 < R.frames) (hRlocals : (rest.map fun v => v.category).sum + (13 * (names.length + 1) + 43) ≤ R.locals) (hRcells : cells + 1 ≤ R.cells) (hRslots : slots + 6 ≤ R.slots) (hlocks : meth.locks = false)
    (hx : ∀ t : State, s.vm.Alike t.vm → H.size ≤ t.heap.size → (∀ q : Nat, q < H.size → t.heap[q]? = H[q]?) → XC cls s t)
    (hf : ∀ z ∈ locs, free z.base) (hc : cells + 1 ≤ mc) (hs : slots + 6 ≤ ms) :
    W p l e R s m args below meth c H locs cells slots (vx_MQ below Qc XC args s mc ms free) (F0 m pc ls rest) := by
  intro T hT X
  have htr : e.platform.stackTraces = false := (show e.platform.stackTraces = l.stackTraces by rw [X.admits.platform]).trans hl
  have Y := vx_rebase X (R' := { frames := R.frames, locals := R.locals, cells := 1, slots := 6 }) (Nat.le_refl _) (Nat.le_refl _) hRcells hRslots
  obtain ⟨s', hA⟩ : ∃ z, z = (T.setVm s.vm).setFrames (.invoking m args :: below) := ⟨_, rfl⟩
  rw [← hA] at Y
  have hvm : s'.vm = s.vm := by rw [hA]; rfl
  have hhp : s'.heap = H := by rw [hA]; exact hT
  have hW0 : s.WarmedH s'.vm := by rw [hvm]; exact State.WarmedH.refl s
  have hat' : ∀ w ∈ vx_atS own ic cls names, w.before args s' = true := fun w hw => vx_ot_at hW0 hvm.symm (hgood w (List.mem_cons_of_mem _ (List.mem_cons_of_mem _ hw))) (hat w hw)
  have hk' : (Cond.classLink own ik cls).before args s' = true := vx_ot_at hW0 hvm.symm (hgood _ List.mem_cons_self) hk
  have hini' : (Cond.initialized cls).before args s' = true := vx_ot_at hW0 hvm.symm (hgood _ (List.mem_cons_of_mem _ List.mem_cons_self)) hini
  have hU' : vx_Zq Bundle.tN "UNASSIGNED_STACK" Bundle.steD A s' s'.heap := by rw [hhp]; exact vx_Zq.moved hW0.alike (hU.kept hS.2.1)
  have hN' : vx_Zq Bundle.tN "SUPPRESSED_SENTINEL" Bundle.listD A s' s'.heap := by rw [hhp]; exact vx_Zq.moved hW0.alike (hN.kept hS.2.1)
  have h : ∀ w ∈ Bundle.ownAtoms own ic cls names, w.before args s' = true := vx_own hat' (vx_isRefq hU'.1) (vx_isRefq hN'.1) hU'.2.word hN'.2.word
  have hown' : s'.vm.findClass own = some m.cls := by rw [hvm]; exact hown
  have hins : (Cond.instantiable cls 6).before args s' = true := h _ (by simp [Bundle.ownAtoms])
  obtain ⟨vm₁, cX, kX, hfX, hkX, -, -, X₁, st1⟩ := Y.newCold hexec (own := own) (C := cls) (index := ik) (n := 6) hown' hk' hins hini'
    (g := F0 m pc ls rest) rfl (by rw [hb]; exact d0) (Nat.le_refl _) (Nat.le_refl _)
  generalize hT1 : (T.setVm vm₁).pushCell { cls := cX, slots := kX.instanceTypes.map defaultValue, vm := .none } = T1 at X₁ st1
  have hcat : (Value.ref T.heap.size).category = 1 := rfl
  have hcellA : T1.heap[T.heap.size]? = some (freshCell cX kX) := by rw [← hT1]; exact State.heap_pushCell_size _ _
  have d3' : decode c.code (pc + 3) = .ok (.dup, 1) := by rw [hb]; exact d3
  have d4' : decode c.code (pc + 4) = .ok (.ldc is, 2) := by rw [hb]; exact d4
  have hstr' : vk_R own is text sa s' := vk_R.warm hW0 hstr
  obtain ⟨U, hsteps, hrun, hend, hW, hsame, ce, hce, hO⟩ := X₁.ctorThrowS hexec htr (own := own) (cls := cls) (names := names) (ic := ic) hown' hcls hnames h (fun x hx => nomatch hx) hfX hkX hcellA (by rw [hhp, hT]; exact Nat.le_refl _) (msg := .ref sa) rfl
    (g := { method := m, pc := pc + 6, locals := ls, stack := .ref sa :: .ref T.heap.size :: .ref T.heap.size :: rest, locked := none }) rfl hsize rfl rfl (rest := rest) rfl
    (by rw [hb]; exact d6) (by rw [hb]; exact d9) hout hRframes (by simp only [List.map_cons, List.sum_cons, hcat]; omega) hlocks
  obtain ⟨f1, f2⟩ := vx_frame hsame
  rw [hhp] at f1 f2
  have hWs : s.WarmedH U.vm := State.WarmedH.trans hW0 hW
  have hcl : s.vm.findClass cls = some ce.cls := by
    have h9 := hO.cls
    rw [hvm] at h9
    exact h9
  have hall : s.sameButNew ({ U with vm := s.vm } : State) locs mc ms := by
    subst hA
    obtain ⟨e1, e2⟩ := hsame
    rw [State.setFrames_setFrames] at e1
    have h2 : (T.setVm s.vm).sameButNew ({ U with vm := s.vm } : State) [] (0 + 1) (0 + 6) := ⟨e1, e2⟩
    have h3 := X.same.trans h2
    rw [List.append_nil] at h3
    exact h3.mono hc hs
  refine ⟨U, ?_, .threw T.heap.size, hrun, hend, Or.inr ⟨T.heap.size, rfl, cls, ce, locs, hx U hWs.alike f1 (fun q hq => f2 q hq (fun z hz => nomatch hz)), hce, hO.vm, hcl, hWs, hall, hf⟩⟩
  refine st1 _ ?_
  show Steps p.tables e below (T1.setTop { method := m, pc := pc + 3, locals := ls, stack := .ref T.heap.size :: rest, locked := none }) _
  jvm_step X₁.here [X₁.here.top, hexec, d3', Value.category]
  exact X₁.ldcString hexec (own := own) (text := text) (index := is) (a := sa) hown' hstr'.1 hstr'.2
    (g := { method := m, pc := pc + 4, locals := ls, stack := .ref T.heap.size :: .ref T.heap.size :: rest, locked := none }) rfl d4' _ hsteps
/-- 'throw new E("text")', the text by a wide index -/
theorem vx_throwSW {cc : ByteArray} {pc : Nat} (hexec : p.tables.exec = Jvm.exec) (hb : c.code = cc) (hl : l.stackTraces = false) {own cls text : String} {names : List String} {ik is ic mc ms sa : Nat} {A : Nat → Prop}
    (hown : s.vm.findClass own = some m.cls) (hcls : Bundle.fit cls = true) (hnames : ∀ n ∈ names, Bundle.fit n = true)
    (hk : (Cond.classLink own ik cls).before args s = true) (hini : (Cond.initialized cls).before args s = true) (hstr : vk_R own is text sa s) (hat : ∀ w ∈ vx_atS own ic cls names, w.before args s = true)
    (hgood : ∀ w ∈ Cond.classLink own ik cls :: Cond.initialized cls :: vx_atS own ic cls names, vx_ot w = true)
    (hU : vx_Zq Bundle.tN "UNASSIGNED_STACK" Bundle.steD A s s.heap) (hN : vx_Zq Bundle.tN "SUPPRESSED_SENTINEL" Bundle.listD A s s.heap) (hS : va_S A s.heap H locs) (hsize : ls.size = c.maxLocals)
    (d0 : decode cc pc = .ok (.new ik, 3)) (d3 : decode cc (pc + 3) = .ok (.dup, 1)) (d4 : decode cc (pc + 4) = .ok (.ldc_w is, 3)) (d7 : decode cc (pc + 7) = .ok (.invokespecial ic, 3)) (d10 : decode cc (pc + 10) = .ok (.athrow, 1))
    (hout : ∀ x ∈ c.exceptionTable.toList, covers x (pc + 10) = false)
    (hRframes : names.length + 3 < R.frames) (hRlocals : (rest.map fun v => v.category).sum + (13 * (names.length + 1) + 43) ≤ R.locals) (hRcells : cells + 1 ≤ R.cells) (hRslots : slots + 6 ≤ R.slots) (hlocks : meth.locks = false)
    (hx : ∀ t : State, s.vm.Alike t.vm → H.size ≤ t.heap.size → (∀ q : Nat, q < H.size → t.heap[q]? = H[q]?) → XC cls s t)
    (hf : ∀ z ∈ locs, free z.base) (hc : cells + 1 ≤ mc) (hs : slots + 6 ≤ ms) :
    W p l e R s m args below meth c H locs cells slots (vx_MQ below Qc XC args s mc ms free) (F0 m pc ls rest) := by
  intro T hT X
  have htr : e.platform.stackTraces = false := (show e.platform.stackTraces = l.stackTraces by rw [X.admits.platform]).trans hl
  have Y := vx_rebase X (R' := { frames := R.frames, locals := R.locals, cells := 1, slots := 6 }) (Nat.le_refl _) (Nat.le_refl _) hRcells hRslots
  obtain ⟨s', hA⟩ : ∃ z, z = (T.setVm s.vm).setFrames (.invoking m args :: below) := ⟨_, rfl⟩
  rw [← hA] at Y
  have hvm : s'.vm = s.vm := by rw [hA]; rfl
  have hhp : s'.heap = H := by rw [hA]; exact hT
  have hW0 : s.WarmedH s'.vm := by rw [hvm]; exact State.WarmedH.refl s
  have hat' : ∀ w ∈ vx_atS own ic cls names, w.before args s' = true := fun w hw => vx_ot_at hW0 hvm.symm (hgood w (List.mem_cons_of_mem _ (List.mem_cons_of_mem _ hw))) (hat w hw)
  have hk' : (Cond.classLink own ik cls).before args s' = true := vx_ot_at hW0 hvm.symm (hgood _ List.mem_cons_self) hk
  have hini' : (Cond.initialized cls).before args s' = true := vx_ot_at hW0 hvm.symm (hgood _ (List.mem_cons_of_mem _ List.mem_cons_self)) hini
  have hU' : vx_Zq Bundle.tN "UNASSIGNED_STACK" Bundle.steD A s' s'.heap := by rw [hhp]; exact vx_Zq.moved hW0.alike (hU.kept hS.2.1)
  have hN' : vx_Zq Bundle.tN "SUPPRESSED_SENTINEL" Bundle.listD A s' s'.heap := by rw [hhp]; exact vx_Zq.moved hW0.alike (hN.kept hS.2.1)
  have h : ∀ w ∈ Bundle.ownAtoms own ic cls names, w.before args s' = true := vx_own hat' (vx_isRefq hU'.1) (vx_isRefq hN'.1) hU'.2.word hN'.2.word
  have hown' : s'.vm.findClass own = some m.cls := by rw [hvm]; exact hown
  have hins : (Cond.instantiable cls 6).before args s' = true := h _ (by simp [Bundle.ownAtoms])
  obtain ⟨vm₁, cX, kX, hfX, hkX, -, -, X₁, st1⟩ := Y.newCold hexec (own := own) (C := cls) (index := ik) (n := 6) hown' hk' hins hini'
    (g := F0 m pc ls rest) rfl (by rw [hb]; exact d0) (Nat.le_refl _) (Nat.le_refl _)
  generalize hT1 : (T.setVm vm₁).pushCell { cls := cX, slots := kX.instanceTypes.map defaultValue, vm := .none } = T1 at X₁ st1
  have hcat : (Value.ref T.heap.size).category = 1 := rfl
  have hcellA : T1.heap[T.heap.size]? = some (freshCell cX kX) := by rw [← hT1]; exact State.heap_pushCell_size _ _
  have d3' : decode c.code (pc + 3) = .ok (.dup, 1) := by rw [hb]; exact d3
  have d4' : decode c.code (pc + 4) = .ok (.ldc_w is, 3) := by rw [hb]; exact d4
  have hstr' : vk_R own is text sa s' := vk_R.warm hW0 hstr
  obtain ⟨U, hsteps, hrun, hend, hW, hsame, ce, hce, hO⟩ := X₁.ctorThrowS hexec htr (own := own) (cls := cls) (names := names) (ic := ic) hown' hcls hnames h (fun x hx => nomatch hx) hfX hkX hcellA (by rw [hhp, hT]; exact Nat.le_refl _) (msg := .ref sa) rfl
    (g := { method := m, pc := pc + 7, locals := ls, stack := .ref sa :: .ref T.heap.size :: .ref T.heap.size :: rest, locked := none }) rfl hsize rfl rfl (rest := rest) rfl
    (by rw [hb]; exact d7) (by rw [hb]; exact d10) hout hRframes (by simp only [List.map_cons, List.sum_cons, hcat]; omega) hlocks
  obtain ⟨f1, f2⟩ := vx_frame hsame
  rw [hhp] at f1 f2
  have hWs : s.WarmedH U.vm := State.WarmedH.trans hW0 hW
  have hcl : s.vm.findClass cls = some ce.cls := by
    have h9 := hO.cls
    rw [hvm] at h9
    exact h9
  have hall : s.sameButNew ({ U with vm := s.vm } : State) locs mc ms := by
    subst hA
    obtain ⟨e1, e2⟩ := hsame
    rw [State.setFrames_setFrames] at e1
    have h2 : (T.setVm s.vm).sameButNew ({ U with vm := s.vm } : State) [] (0 + 1) (0 + 6) := ⟨e1, e2⟩
    have h3 := X.same.trans h2
    rw [List.append_nil] at h3
    exact h3.mono hc hs
  refine ⟨U, ?_, .threw T.heap.size, hrun, hend, Or.inr ⟨T.heap.size, rfl, cls, ce, locs, hx U hWs.alike f1 (fun q hq => f2 q hq (fun z hz => nomatch hz)), hce, hO.vm, hcl, hWs, hall, hf⟩⟩
  refine st1 _ ?_
  show Steps p.tables e below (T1.setTop { method := m, pc := pc + 3, locals := ls, stack := .ref T.heap.size :: rest, locked := none }) _
  jvm_step X₁.here [X₁.here.top, hexec, d3', Value.category]
  exact X₁.ldcStringW hexec (own := own) (text := text) (index := is) (a := sa) hown' hstr'.1 hstr'.2
    (g := { method := m, pc := pc + 4, locals := ls, stack := .ref T.heap.size :: .ref T.heap.size :: rest, locked := none }) rfl d4' _ hsteps
end Ends
section Bodies
variable {l : Launch}
theorem vx_ofW {y : MethodName} {ws ws' : List Cond} {rm : Room} {Pc : Array Value → State → Prop} {Qc : Array Value → State → Outcome → State → Prop} {XC : String → State → State → Prop} {mc ms : Nat} {free : Addr → Prop} {cc : ByteArray} {maxL : Nat} {ret : Option FieldType}
    (hy : plainName y.cls = true) (hw : ws = Cond.code y cc maxL ret :: ws')
    (body : ∀ p e s m args below meth c s₁, BodyLoose p l y (headSpec ws rm) cc maxL ret e s m args below meth c s₁ → c.maxLocals = maxL → (∀ x ∈ c.exceptionTable.toList, False) → Pc args s →
      W p l e (headSpec ws rm).room s m args below meth c s.heap [] 0 0 (vx_MQ below Qc XC args s mc ms free) (entryFrame m args maxL)) : vx_Met l y ws rm Pc Qc XC mc ms free := by
  refine MetFree.of_bodyS (code := cc) (maxLocals := maxL) (ret := ret) hy ?_ ?_
  · intro args s m h hn
    obtain ⟨meth, c, h1, h2, h3, h4, h5, h6, -, -⟩ := Cond.code_spec hn (atoms_spec (ws := ws) h _ (by rw [hw]; exact List.mem_cons_self))
    exact ⟨meth, c, h1, h2, h3, h4, h5, h6⟩
  · intro p e s m args below meth c s₁ B hml hP _
    have hh0 : s₁.heap = s.heap := by rw [B.state]; rfl
    have ht : ∀ x ∈ c.exceptionTable.toList, False := by
      obtain ⟨meth9, c9, h1, h2, -, -, -, -, h7, -⟩ := Cond.code_spec B.named (atoms_spec (ws := ws) B.pre _ (by rw [hw]; exact List.mem_cons_self))
      cases Option.some.inj (h1.symm.trans B.method)
      cases Option.some.inj (h2.symm.trans (Stand.of_body B).code)
      intro x hx
      rw [Array.isEmpty_iff.mp h7] at hx
      cases hx
    obtain ⟨t, a1, o, b1, b2, b3⟩ := body p e s m args below meth c s₁ B hml ht hP s₁ hh0 (Stand.of_body B)
    exact ⟨t, o, a1, b1, b2, b3⟩
/-- the table of a body with handlers -/
theorem vx_table {p : Program} {x y : MethodName} {S : Spec} {cc bytes : ByteArray} {maxL maxL' : Nat} {ret ret' : Option FieldType} {e : Env} {s s₁ : State} {m : MethodId} {args : Array Value} {below : List Frame} {meth : Method} {c : Code} {hh : List (Nat × Nat × Nat × Nat)}
    (B : BodyLoose p l y S cc maxL ret e s m args below meth c s₁) (h : (Cond.codeWith y bytes maxL' ret' hh).before args s = true) : c.exceptionTable.toList = tableOf hh := by
  obtain ⟨m9, meth9, c9, hn9, h1, h2, -, -, h6, -⟩ := Cond.codeWith_spec h
  cases Option.some.inj (hn9.symm.trans B.named)
  cases Option.some.inj (h1.symm.trans B.method)
  cases Option.some.inj (h2.symm.trans (Stand.of_body B).code)
  rw [← h6, table_eq]
end Bodies
end VXA
/-! ===== END ===== -/
/-! ===== BEGIN a static call of a method with an exception table ===== -/
section VXS
variable {p : Program} {l : Launch} {e : Env} {R : Room} {s : State} {m : MethodId} {args : Array Value} {below : List Frame} {meth : Method} {c : Code} {T : State} {H : Heap} {locs : List Loc} {cells slots : Nat}
abbrev vx_CSW (R : Room) (s : State) (args : Array Value) (own : String) (index : Nat) (y : MethodName) (bytes : ByteArray) (maxL : Nat) (ret : Option FieldType) (hh : List (Nat × Nat × Nat × Nat)) (ws : List Cond) (rm : Room) (mc ms n : Nat) : Prop :=
  (rm.cells = mc ∧ rm.slots = ms ∧ rm.frames + 1 ≤ R.frames ∧ 8 + (maxL + 11) + rm.locals ≤ R.locals ∧ (∀ w ∈ ws, ∀ (a' : Array Value) (U : State), s.WarmedH U.vm → w.before a' U = true) ∧ Cond.codeWith y bytes maxL ret hh ∈ ws) ∧
  (Cond.codeWith y bytes maxL ret hh).before args s = true ∧ (Cond.initialized y.cls).before args s = true ∧ (y.cls ≠ "java/lang/invoke/MethodHandle" ∧ y.cls ≠ "java/lang/invoke/VarHandle") ∧
  (∀ sig, parseMethodDescriptor y.desc = some sig → n = sig.parameters.length) ∧ (Cond.methodLink own index y).before args s = true ∧ (Cond.static y).before args s = true
theorem vx_cwSW {own : String} {index maxL mc ms : Nat} {y : MethodName} {bytes : ByteArray} {ret : Option FieldType} {hh : List (Nat × Nat × Nat × Nat)} {Ts ws ws' : List Cond} {rm : Room} (n : Nat) (ht : ∀ w ∈ Ts, w.before args s = true) (hT : GoodIn Ts (va_wsS own index y ws)) (hw : ws = Cond.codeWith y bytes maxL ret hh :: ws') (hrc : rm.cells = mc) (hrs : rm.slots = ms)
    (hd : y.cls ≠ "java/lang/invoke/MethodHandle" ∧ y.cls ≠ "java/lang/invoke/VarHandle" ∧ (parseMethodDescriptor y.desc).map (fun d => d.parameters.length) = some n) (hR : rm.frames + 1 ≤ R.frames ∧ 8 + (maxL + 11) + rm.locals ≤ R.locals) :
    vx_CSW R s args own index y bytes maxL ret hh ws rm mc ms n := by
  have ok : ∀ w ∈ va_wsS own index y ws, w.before args s = true := fun w h => ht w (hT w h).1
  have hG : GoodIn Ts ws := fun w h => hT w (by unfold va_wsS; exact List.mem_append_right _ h)
  have hc : Cond.codeWith y bytes maxL ret hh ∈ ws := by rw [hw]; exact List.mem_cons_self
  refine ⟨⟨hrc, hrs, hR.1, hR.2, pay_in ht hG, hc⟩, ht _ (hG _ hc).1, ok _ (by simp [va_wsS]), ⟨hd.1, hd.2.1⟩, fun sig h => ?_, ok _ (by simp [va_wsS]), ok _ (by simp [va_wsS])⟩
  have h2 := hd.2.2
  rw [h] at h2
  exact (Option.some.inj h2).symm
theorem vx_callSW (X : Stand p l e R s m args below meth c T locs cells slots) (hexec : p.tables.exec = Jvm.exec) {own : String} {index : Nat} {y : MethodName} {bytes : ByteArray} {maxL : Nat} {ret : Option FieldType} {hh : List (Nat × Nat × Nat × Nat)}
    (hown : s.vm.findClass own = some m.cls) (hlink : (Cond.methodLink own index y).before args s = true) (hstat : (Cond.static y).before args s = true) (hinit : (Cond.initialized y.cls).before args s = true)
    (hcode : (Cond.codeWith y bytes maxL ret hh).before args s = true) (hy : y.cls ≠ "java/lang/invoke/MethodHandle" ∧ y.cls ≠ "java/lang/invoke/VarHandle")
    {W9 : Nat} {Pre : Pt → Array Value → Prop} {Post : Pt → Array Value → Option Value → Pt → Prop} (hK : Back l R p e below s args y 3 W9 Pre Post)
    {g : JFrame} (hg : g.method = m) (hsize : g.locals.size = c.maxLocals) {argsL rest : List Value} (hlen : ∀ sig, parseMethodDescriptor y.desc = some sig → argsL.length = sig.parameters.length)
    (hstack : g.stack = argsL.reverse ++ rest) (hW : 2 * g.monitorRoom + (rest.map fun v => v.category).sum ≤ W9) (hdg : decode c.code g.pc = .ok (.invokestatic index, 3))
    (hpre : ∀ vm₁, s.WarmedH vm₁ → Pre ⟨T.setVm vm₁, locs, cells, slots⟩ argsL.toArray) :
    ∃ (v : Option Value) (vm₁ : Vm) (B : Pt), s.WarmedH vm₁ ∧ Stand p l e R s m args below meth c B.U B.locs B.cells B.slots ∧ Post ⟨T.setVm vm₁, locs, cells, slots⟩ argsL.toArray v B ∧
      ∀ target, Steps p.tables e below (B.U.setTop { g with pc := g.pc + 3, stack := v.toList ++ rest }) target → Steps p.tables e below (T.setTop g) target := by
  obtain ⟨mk, methM, cM, hnamed, hmethM, -, -, -, -, -, -, hsigM⟩ := Cond.codeWith_spec hcode
  have hstatic : methM.isStatic = true := Cond.static_spec hnamed hmethM hstat
  obtain ⟨kP, hkP, -⟩ := className_of_methodNamed hnamed
  have hinitP : kP.init = .initialized := Cond.initialized_spec (findClass_of_methodNamed hnamed) hkP hinit
  obtain ⟨vm₁, X₁, hstep₁⟩ := X.invokestatic hexec hown hlink hnamed hmethM hstatic hkP hinitP hy (g := g) hg (argsL := argsL) (rest := rest) (hlen _ hsigM) hstack hdg
  obtain ⟨v, B, X', hpost, hsteps⟩ := hK m meth c ⟨T.setVm vm₁, locs, cells, slots⟩ { g with stack := rest } (.invokestatic index) mk argsL.toArray X₁ hg hsize hdg hW (X₁.named hnamed) (hpre vm₁ X₁.warmed)
  exact ⟨v, vm₁, B, X₁.warmed, X', hpost, fun target h => hstep₁ _ fun acts => by rw [doInvoke_state]; exact hsteps.trans h⟩
theorem vx_runSW {y : MethodName} {bytes cc : ByteArray} {maxL nL mc ms n index : Nat} {ret : Option FieldType} {hh : List (Nat × Nat × Nat × Nat)} {ws : List Cond} {rm : Room} {Pc : Array Value → State → Prop} {Qc : Array Value → State → Outcome → State → Prop} {free : Addr → Prop} {Ts : List Cond} {own : String} {As rest : List Value} {g : JFrame}
    (S : CallFix p m c cc nL s args Ts own) (hM : Met l y ws rm Pc Qc mc ms free) (cw : vx_CSW R s args own index y bytes maxL ret hh ws rm mc ms n) (hp : PreS s H Pc As)
    (hg : g.method = m) (hn : As.length = n) (hsize : g.locals.size = nL) (hstack : g.stack = As.reverse ++ rest) (hW : 2 * g.monitorRoom + (rest.map fun v => v.category).sum ≤ 8) (hdg : decode cc g.pc = .ok (.invokestatic index, 3)) (hf : cells + mc ≤ R.cells ∧ slots + ms ≤ R.slots) :
    va_Run p l e R s m args below meth c H locs cells slots mc ms g rest (Qc As.toArray) (free) := by
  obtain ⟨⟨hrc, hrs, hfr, hlo, hws, hcw⟩, hcode, hini, hy, hlen, hl, hstt⟩ := cw
  have hK : Back l R p e below s args y 3 8 (PreOf R mc ms Pc) (PostOf Qc mc ms free) := va_backW (hh := hh) (bytes := bytes) (maxL := maxL) (ret := ret) hM hp.1 hrc hrs hfr hlo hws hcw (fun a' U hW => word_at hW (Or.inl (by first | rfl | simp [Cond.onTables, Cond.keeps, Cond.steady])) hini)
  obtain ⟨hx, hb, hml, ho, -⟩ := S
  intro T hT X
  obtain ⟨v, vm₁, ⟨U', l2, c2, s2⟩, hW₁, X', ⟨g', mk, t, L, e1, e2, hq, h1, hL, h2, h3⟩, st⟩ := vx_callSW X hx (hh := hh) (bytes := bytes) (maxL := maxL) (ret := ret) ho hl hstt hini hcode hy hK hg (hsize.trans hml.symm) (argsL := As) (rest := rest) (fun sig h => hn.trans (hlen sig h)) hstack hW (by rw [hb]; exact hdg)
    (fun vm₁ hW₁ => ⟨hf.1, hf.2, hp.2 (T.setVm vm₁) hT hW₁⟩)
  dsimp only [Pt.U, Pt.locs, Pt.cells, Pt.slots] at X' e1 e2 h1 h2 h3 st
  subst h1; subst h2; subst h3
  exact ⟨v, (T.setVm vm₁).calling g' mk As.toArray, t, U', L, hT, X', hL, e1, e2, hq, st⟩
/-- not caught here, past rows that name other classes: it goes on to the caller -/
theorem vx_outP {p : Program} {l : Launch} {e : Env} {R : Room} {s : State} {m : MethodId} {args : Array Value} {below : List Frame} {meth : Method} {c : Code} {H : Heap} {locs : List Loc} {cells slots : Nat} {free : Addr → Prop} {ls : Array Slot} {rest : List Value} {Qc : Array Value → State → Outcome → State → Prop} {XC : String → State → State → Prop}
    {pc : Nat} {own E : String} {ce : Cell} {q : Addr} {mc ms : Nat} (hown : s.vm.findClass own = some m.cls) (hlocks : meth.locks = false)
    (hpass : ∀ z ∈ c.exceptionTable.toList, covers z pc = false ∨ (z.catchType ≠ 0 ∧ ∃ nm : String, (Cond.classLink own z.catchType nm).before args s = true ∧ va_Nc E nm s)) (hcell : H[q]? = some ce) (hv : ce.vm = .none) (hcl : s.vm.findClass E = some ce.cls)
    (hx : ∀ t : State, t.heap = H → s.vm.Alike t.vm → XC E s t) (hf : ∀ z ∈ locs, free z.base) (hc : cells ≤ mc) (hs : slots ≤ ms) :
    vx_W p l e R s m args below meth c H locs cells slots (vx_MQ below Qc XC args s mc ms free) (F0 m pc ls rest) q := by
  intro T hT X
  have hpl : e.platform.magicAccessors = ({} : Platform).magicAccessors := by rw [X.admits.platform]
  obtain ⟨vm', hW', X', st⟩ := X.outThrough hlocks q (g := F0 m pc ls rest) rfl rfl rfl (cell := ce) (by rw [hT]; exact hcell) (by rw [hv]; rfl)
    (by obtain ⟨k9, h9, -⟩ := Vm.findClass_spec hcl; exact ⟨k9, h9⟩) (fun z hz => by
      rcases hpass z hz with h | ⟨hz0, nm, hl1, hn1⟩
      · exact Or.inl h
      · obtain ⟨c6, hc6, hcl6⟩ := Cond.classLink_spec hown hl1 e.platform hpl
        obtain ⟨a8, b8, h1, h2, h3⟩ := hn1
        cases Option.some.inj (h1.symm.trans hcl)
        cases Option.some.inj (h2.symm.trans hc6)
        exact Or.inr ⟨hz0, _, hcl6, h3⟩)
  obtain ⟨g₀, hfr⟩ := X'.frames_eq
  have hcell9 : ((T.setVm vm').setFrames (.throwing q :: below)).heap[q]? = some ce := by
    show T.heap[q]? = some ce
    rw [hT]; exact hcell
  have hend : Ended ((T.setVm vm').setFrames (.throwing q :: below)) below (.threw q) := State.frames_setFrames _ (State.cur_lt_of_frames hfr)
  refine ⟨(T.setVm vm').setFrames (.throwing q :: below), ?_, .threw q, X'.here.running, hend, Or.inr ⟨q, rfl, E, ce, locs, hx _ hT (X'.ends _).1.alike, hcell9, hv, hcl, (X'.ends _).1, (X'.ends _).2.mono hc hs, hf⟩⟩
  rw [X.pushThrowing_eq]
  exact st
/-- a thing of a world lies in the heap -/
theorem vx_lt {D : va_G} {cl : List vw_C} {ws : va_W} {H1 : Heap} (h : va_P D cl ws H1) {k : Nat} {q : Nat × va_E} (hk : ws[k]? = some q) : q.1 < H1.size := (h k q hk).lt
end VXS
/-! ===== END ===== -/
/-! ===== BEGIN methods with a table of their own: called by a name, returning or throwing ===== -/
section VXH
/-! vx_backW, vx_callVX, vx_callSX, vx_callVW, vx_runVW, vx_runVX, vx_runSX, vx_ofWH follow the same proofs as their sisters above (Free/Laws.lean, Shelf42/LK1.lean); vx_outP calls Shelf42/NT130.lean (outThrough). -/
section
variable {l : Launch} {R : Room} {p : Program} {e : Env} {below : List Frame} {s : State} {sargs : Array Value} {y : MethodName} {len W9 : Nat}
theorem vx_backW {ws : List Cond} {rm : Room} {Pc : Array Value → State → Prop} {Qc : Array Value → State → Outcome → State → Prop} {XC : String → State → State → Prop} {mc ms : Nat} {free : Addr → Prop} {bytes : ByteArray} {maxL : Nat} {ret : Option FieldType} {hh : List (Nat × Nat × Nat × Nat)}
    (hM : vx_Met l y ws rm Pc Qc XC mc ms free) (hblind : FrameBlind Pc) (hrc : rm.cells = mc) (hrs : rm.slots = ms)
    (hframes : rm.frames + 1 ≤ R.frames) (hlocals : W9 + (maxL + 11) + rm.locals ≤ R.locals)
    (hws : ∀ w ∈ ws, ∀ a' U, s.WarmedH U.vm → w.before a' U = true) (hcode : Cond.codeWith y bytes maxL ret hh ∈ ws) (hinit : ∀ a' U, s.WarmedH U.vm → (Cond.initialized y.cls).before a' U = true) :
    vx_Back l R p e below s sargs y len W9 (PreOf R mc ms Pc) (PostOf Qc mc ms free) (vx_Post XC mc ms free) := by
  intro m meth c A g ig mk a X hg hsize hdg hW hn hp
  have h1 : (headSpec ws rm).pre.before a A.U = true := atoms_intro fun w hw => hws w hw _ _ X.warmed
  have h2 : (Cond.codeWith y bytes maxL ret hh).before a A.U = true := hws _ hcode _ _ X.warmed
  have h3 : (Cond.initialized y.cls).before a A.U = true := hinit _ _ X.warmed
  have h4 : A.cells + (headSpec ws rm).room.cells ≤ R.cells := by rw [show (headSpec ws rm).room.cells = mc from hrc]; exact hp.1
  have h5 : A.slots + (headSpec ws rm).room.slots ≤ R.slots := by rw [show (headSpec ws rm).room.slots = ms from hrs]; exact hp.2.1
  have hPc : Pc a (A.U.calling g mk a) := hblind _ _ _ _ hp.2.2
  obtain ⟨U, Ls, c0, s0⟩ := A
  dsimp only [Pt.U, Pt.locs, Pt.cells, Pt.slots] at h1 h2 h3 h4 h5 X hn hPc ⊢
  obtain ⟨m9, methY, cY, hn9, hmY, hcY, -, hlY, -⟩ := Cond.codeWith_spec h2
  cases Option.some.inj (hn9.symm.trans hn)
  obtain ⟨kY, hkY, -⟩ := className_of_methodNamed hn
  have hinitY : kY.init = .initialized := Cond.initialized_spec (findClass_of_methodNamed hn) hkY h3
  have h : At U g.method c below := by rw [hg]; exact X.here
  have hlocals9 : W9 + (maxL + 11) + (headSpec ws rm).room.locals ≤ R.locals := hlocals
  have happ : (headSpec ws rm).appliesLoose y e.platform (U.calling g mk a) = true :=
    Spec.appliesLoose_calling (g := g) h hdg hn hkY hinitY
      (X.room_calling (g := g) (R' := (headSpec ws rm).room) hsize hmY hcY hframes (by rw [hlY]; omega) h4 h5) h1
  obtain ⟨mid, hmid⟩ := h.above
  have hfr : (U.setTop g).frames = (.java g :: mid) ++ below := by rw [State.frames_setTop' g h.top, hmid]; rfl
  obtain ⟨o, s₂, hsteps, -, hend, hq⟩ := Steps.callFree hM p X.admits X.cas X.clock (acts := []) hfr happ hPc trivial
  have hq' : vx_Q Qc XC mc ms free a (U.calling g mk a) o s₂ := hq
  rw [State.frames_setTop' g h.top] at hend
  obtain ⟨g₀, hg0⟩ := Option.isSome_iff_exists.mp h.top
  obtain ⟨r, hr⟩ := State.topJava?_eq_some.mp hg0
  have hr' : (({ U with heap := s₂.heap, slotsUsed := s₂.slotsUsed } : State).setVm s₂.vm).frames = .java g₀ :: r := hr
  rcases hq' with ⟨hqc, L, hfe, hL⟩ | ⟨q, rfl, E, ce, L, hx, hce, hcv, hcl, hW₂, hsm, hL⟩
  · obtain ⟨⟨v, rfl⟩, hW₂, e2, q2, q3, q4, q5, q6⟩ := id hfe
    have e3 : s₂ = ({ (U.calling g mk a).setFrames s₂.frames with heap := s₂.heap, slotsUsed := s₂.slotsUsed } : State).setVm s₂.vm := by
      have : s₂ = ({ s₂ with vm := (U.calling g mk a).vm } : State).setVm s₂.vm := rfl
      rw [e2] at this
      exact this
    obtain ⟨c₂, i₂, len₂, hc₂, hd₂, hf₂⟩ := hend
    have hW' : U.WarmedH s₂.vm := hW₂
    have hcc : c₂ = c := by
      have h1 : s₂.code? g.method = U.code? g.method := by
        rw [State.code?_eq, State.code?_eq, hW'.alike.method?]
      exact Option.some.inj (hc₂.symm.trans (h1.trans h.code))
    subst hcc
    have hlen : len₂ = len := by rw [hdg] at hd₂; cases hd₂; rfl
    subst hlen
    have hs₂ : s₂ = (({ U with heap := s₂.heap, slotsUsed := s₂.slotsUsed } : State).setVm s₂.vm).setTop { g with pc := g.pc + len₂, stack := v.toList ++ g.stack } := by
      refine e3.trans ?_
      rw [hf₂, State.calling_eq h.top, State.setFrames_setFrames, State.setTop_of_frames _ hr', hr]
      rfl
    have hsame : U.sameButNew ({ U with heap := s₂.heap, slotsUsed := s₂.slotsUsed } : State) L mc ms := by
      refine ⟨?_, q2, q3, q4, q5, q6⟩
      obtain ⟨t, ht, -⟩ := State.frames_cons hr
      show ({ U with heap := s₂.heap, slotsUsed := s₂.slotsUsed } : State) = { U.setFrames U.frames with heap := s₂.heap, slotsUsed := s₂.slotsUsed }
      rw [State.setFrames_self ht]
    subst hg
    refine Or.inl ⟨v, ⟨(({ U with heap := s₂.heap, slotsUsed := s₂.slotsUsed } : State).setVm s₂.vm), Ls ++ L, c0 + mc, s0 + ms⟩,
      ⟨X.admits, X.cas, X.clock, X.frames, X.room, X.hears, X.method, X.code, (X.here.setHeapUsed s₂.heap s₂.slotsUsed).setVm hW'.alike, X.tail, State.WarmedH.trans X.warmed hW', X.limits, X.bytes, X.same.trans (hsame.setVm s.vm)⟩,
      ⟨g, mk, s₂, L, rfl, rfl, hqc, rfl, hL, rfl, rfl⟩, ?_⟩
    show Steps p.tables e below _ ((({ U with heap := s₂.heap, slotsUsed := s₂.slotsUsed } : State).setVm s₂.vm).setTop { g with pc := g.pc + len₂, stack := v.toList ++ g.stack })
    rw [← hs₂]
    exact hsteps
  · obtain ⟨e2, q2, q3, q4, q5, q6⟩ := id hsm
    have e3 : s₂ = ({ (U.calling g mk a).setFrames s₂.frames with heap := s₂.heap, slotsUsed := s₂.slotsUsed } : State).setVm s₂.vm := by
      have : s₂ = ({ s₂ with vm := (U.calling g mk a).vm } : State).setVm s₂.vm := rfl
      rw [e2] at this
      exact this
    have hf₂ : s₂.frames = .throwing q :: .java g :: U.frames.tail := hend
    have hW' : U.WarmedH s₂.vm := hW₂
    have hs₂ : s₂ = ((({ U with heap := s₂.heap, slotsUsed := s₂.slotsUsed } : State).setVm s₂.vm).setTop g).pushFrame (.throwing q) := by
      refine e3.trans ?_
      rw [hf₂, State.calling_eq h.top, State.setFrames_setFrames, State.pushFrame, State.frames_setTop _ hr', State.setTop_of_frames _ hr', State.setFrames_setFrames, hr]
      rfl
    have hsame : U.sameButNew ({ U with heap := s₂.heap, slotsUsed := s₂.slotsUsed } : State) L mc ms := by
      refine ⟨?_, q2, q3, q4, q5, q6⟩
      obtain ⟨t, ht, -⟩ := State.frames_cons hr
      show ({ U with heap := s₂.heap, slotsUsed := s₂.slotsUsed } : State) = { U.setFrames U.frames with heap := s₂.heap, slotsUsed := s₂.slotsUsed }
      rw [State.setFrames_self ht]
    subst hg
    refine Or.inr ⟨q, ⟨(({ U with heap := s₂.heap, slotsUsed := s₂.slotsUsed } : State).setVm s₂.vm), Ls ++ L, c0 + mc, s0 + ms⟩,
      ⟨X.admits, X.cas, X.clock, X.frames, X.room, X.hears, X.method, X.code, (X.here.setHeapUsed s₂.heap s₂.slotsUsed).setVm hW'.alike, X.tail, State.WarmedH.trans X.warmed hW', X.limits, X.bytes, X.same.trans (hsame.setVm s.vm)⟩,
      ⟨g, mk, s₂, L, E, ce, rfl, rfl, hx, hce, hcv, hcl, rfl, hL, rfl, rfl⟩, ?_⟩
    show Steps p.tables e below _ (((({ U with heap := s₂.heap, slotsUsed := s₂.slotsUsed } : State).setVm s₂.vm).setTop g).pushFrame (.throwing q))
    rw [← hs₂]
    exact hsteps
end
variable {p : Program} {l : Launch} {e : Env} {R : Room} {s : State} {m : MethodId} {args : Array Value} {below : List Frame} {meth : Method} {c : Code} {T : State} {H : Heap} {locs : List Loc} {cells slots : Nat}
theorem vx_callVX (X : Stand p l e R s m args below meth c T locs cells slots) (hexec : p.tables.exec = Jvm.exec) {own C : String} {index : Nat} {y : MethodName} {bytes : ByteArray} {maxL : Nat} {ret : Option FieldType} {hh : List (Nat × Nat × Nat × Nat)}
    (hown : s.vm.findClass own = some m.cls) (hlink : (Cond.methodLink own index y).before args s = true) (hinst : (Cond.instanceMethod y).before args s = true) (hsel : (Cond.selects C y y).before args s = true)
    (hcode : (Cond.codeWith y bytes maxL ret hh).before args s = true) (hy : y.cls ≠ "java/lang/invoke/MethodHandle" ∧ y.cls ≠ "java/lang/invoke/VarHandle")
    {W9 : Nat} {Pre : Pt → Array Value → Prop} {Post : Pt → Array Value → Option Value → Pt → Prop} {PostX : Pt → Array Value → Addr → Pt → Prop} (hK : vx_Back l R p e below s args y 3 W9 Pre Post PostX)
    {b : Addr} {cellB : Cell} (hcell : T.heap[b]? = some cellB) (hobj : cellB.vm.isStatics = false) (hcls : s.vm.findClass C = some cellB.cls)
    {g : JFrame} (hg : g.method = m) (hsize : g.locals.size = c.maxLocals) {argsL rest : List Value} (hlen : ∀ sig, parseMethodDescriptor y.desc = some sig → argsL.length = sig.parameters.length)
    (hstack : g.stack = argsL.reverse ++ .ref b :: rest) (hW : 2 * g.monitorRoom + (rest.map fun v => v.category).sum ≤ W9) (hdg : decode c.code g.pc = .ok (.invokevirtual index, 3))
    (hpre : ∀ vm₁, s.WarmedH vm₁ → Pre ⟨T.setVm vm₁, locs, cells, slots⟩ (Value.ref b :: argsL).toArray) :
    (∃ (v : Option Value) (vm₁ : Vm) (B : Pt), s.WarmedH vm₁ ∧ Stand p l e R s m args below meth c B.U B.locs B.cells B.slots ∧ Post ⟨T.setVm vm₁, locs, cells, slots⟩ (Value.ref b :: argsL).toArray v B ∧
      ∀ target, Steps p.tables e below (B.U.setTop { g with pc := g.pc + 3, stack := v.toList ++ rest }) target → Steps p.tables e below (T.setTop g) target) ∨
    (∃ (q : Addr) (vm₁ : Vm) (B : Pt), s.WarmedH vm₁ ∧ Stand p l e R s m args below meth c B.U B.locs B.cells B.slots ∧ PostX ⟨T.setVm vm₁, locs, cells, slots⟩ (Value.ref b :: argsL).toArray q B ∧
      Steps p.tables e below (T.setTop g) ((B.U.setTop { g with stack := rest }).pushFrame (.throwing q))) := by
  obtain ⟨mk, methM, hnamed, hmethM, hstM, habM⟩ := Cond.instanceMethod_spec hinst
  obtain ⟨m8, methM', cM, hn8, hmethM', -, -, -, -, -, -, hsigM⟩ := Cond.codeWith_spec hcode
  cases Option.some.inj (hn8.symm.trans hnamed)
  cases hmethM.symm.trans hmethM'
  obtain ⟨c2, r2, m2, q1, q2, q3, q4, kP, hkP, hkPi⟩ := Cond.selects_spec hsel
  cases hcls.symm.trans q1
  cases (State.methodFound?_of_named hnamed hy).symm.trans q2
  cases hnamed.symm.trans q3
  have hselP : selectMethod e.platform s.vm cellB.cls mk = .method mk := by rw [Launch.admits_selectMethod X.admits]; exact q4
  obtain ⟨vm₁, X₁, hstep₁⟩ := X.invokevirtual hexec hown hlink hnamed hmethM hstM hkP hkPi hy (a := b) (cell := cellB) hcell
    (fun z h => by rw [h] at hobj; cases hobj) hselP hmethM habM hkP hkPi (g := g) hg (argsL := argsL) (rest := rest) (hlen _ hsigM) hstack hdg
  rcases hK m meth c ⟨T.setVm vm₁, locs, cells, slots⟩ { g with stack := rest } (.invokevirtual index) mk (Value.ref b :: argsL).toArray X₁ hg hsize hdg hW (X₁.named hnamed) (hpre vm₁ X₁.warmed) with ⟨v, B, X', hpost, hsteps⟩ | ⟨q, B, X', hpost, hsteps⟩
  · exact Or.inl ⟨v, vm₁, B, X₁.warmed, X', hpost, fun target h => hstep₁ _ fun acts => by rw [doInvoke_state]; exact hsteps.trans h⟩
  · exact Or.inr ⟨q, vm₁, B, X₁.warmed, X', hpost, hstep₁ _ fun acts => by rw [doInvoke_state]; exact hsteps⟩
theorem vx_callSX (X : Stand p l e R s m args below meth c T locs cells slots) (hexec : p.tables.exec = Jvm.exec) {own : String} {index : Nat} {y : MethodName} {bytes : ByteArray} {maxL : Nat} {ret : Option FieldType} {hh : List (Nat × Nat × Nat × Nat)}
    (hown : s.vm.findClass own = some m.cls) (hlink : (Cond.methodLink own index y).before args s = true) (hstat : (Cond.static y).before args s = true) (hinit : (Cond.initialized y.cls).before args s = true)
    (hcode : (Cond.codeWith y bytes maxL ret hh).before args s = true) (hy : y.cls ≠ "java/lang/invoke/MethodHandle" ∧ y.cls ≠ "java/lang/invoke/VarHandle")
    {W9 : Nat} {Pre : Pt → Array Value → Prop} {Post : Pt → Array Value → Option Value → Pt → Prop} {PostX : Pt → Array Value → Addr → Pt → Prop} (hK : vx_Back l R p e below s args y 3 W9 Pre Post PostX)
    {g : JFrame} (hg : g.method = m) (hsize : g.locals.size = c.maxLocals) {argsL rest : List Value} (hlen : ∀ sig, parseMethodDescriptor y.desc = some sig → argsL.length = sig.parameters.length)
    (hstack : g.stack = argsL.reverse ++ rest) (hW : 2 * g.monitorRoom + (rest.map fun v => v.category).sum ≤ W9) (hdg : decode c.code g.pc = .ok (.invokestatic index, 3))
    (hpre : ∀ vm₁, s.WarmedH vm₁ → Pre ⟨T.setVm vm₁, locs, cells, slots⟩ argsL.toArray) :
    (∃ (v : Option Value) (vm₁ : Vm) (B : Pt), s.WarmedH vm₁ ∧ Stand p l e R s m args below meth c B.U B.locs B.cells B.slots ∧ Post ⟨T.setVm vm₁, locs, cells, slots⟩ argsL.toArray v B ∧
      ∀ target, Steps p.tables e below (B.U.setTop { g with pc := g.pc + 3, stack := v.toList ++ rest }) target → Steps p.tables e below (T.setTop g) target) ∨
    (∃ (q : Addr) (vm₁ : Vm) (B : Pt), s.WarmedH vm₁ ∧ Stand p l e R s m args below meth c B.U B.locs B.cells B.slots ∧ PostX ⟨T.setVm vm₁, locs, cells, slots⟩ argsL.toArray q B ∧
      Steps p.tables e below (T.setTop g) ((B.U.setTop { g with stack := rest }).pushFrame (.throwing q))) := by
  obtain ⟨mk, methM, cM, hnamed, hmethM, -, -, -, -, -, -, hsigM⟩ := Cond.codeWith_spec hcode
  have hstatic : methM.isStatic = true := Cond.static_spec hnamed hmethM hstat
  obtain ⟨kP, hkP, -⟩ := className_of_methodNamed hnamed
  have hinitP : kP.init = .initialized := Cond.initialized_spec (findClass_of_methodNamed hnamed) hkP hinit
  obtain ⟨vm₁, X₁, hstep₁⟩ := X.invokestatic hexec hown hlink hnamed hmethM hstatic hkP hinitP hy (g := g) hg (argsL := argsL) (rest := rest) (hlen _ hsigM) hstack hdg
  rcases hK m meth c ⟨T.setVm vm₁, locs, cells, slots⟩ { g with stack := rest } (.invokestatic index) mk argsL.toArray X₁ hg hsize hdg hW (X₁.named hnamed) (hpre vm₁ X₁.warmed) with ⟨v, B, X', hpost, hsteps⟩ | ⟨q, B, X', hpost, hsteps⟩
  · exact Or.inl ⟨v, vm₁, B, X₁.warmed, X', hpost, fun target h => hstep₁ _ fun acts => by rw [doInvoke_state]; exact hsteps.trans h⟩
  · exact Or.inr ⟨q, vm₁, B, X₁.warmed, X', hpost, hstep₁ _ fun acts => by rw [doInvoke_state]; exact hsteps⟩
theorem vx_callVW (X : Stand p l e R s m args below meth c T locs cells slots) (hexec : p.tables.exec = Jvm.exec) {own C : String} {index : Nat} {y : MethodName} {bytes : ByteArray} {maxL : Nat} {ret : Option FieldType} {hh : List (Nat × Nat × Nat × Nat)}
    (hown : s.vm.findClass own = some m.cls) (hlink : (Cond.methodLink own index y).before args s = true) (hinst : (Cond.instanceMethod y).before args s = true) (hsel : (Cond.selects C y y).before args s = true)
    (hcode : (Cond.codeWith y bytes maxL ret hh).before args s = true) (hy : y.cls ≠ "java/lang/invoke/MethodHandle" ∧ y.cls ≠ "java/lang/invoke/VarHandle")
    {W9 : Nat} {Pre : Pt → Array Value → Prop} {Post : Pt → Array Value → Option Value → Pt → Prop} (hK : Back l R p e below s args y 3 W9 Pre Post)
    {b : Addr} {cellB : Cell} (hcell : T.heap[b]? = some cellB) (hobj : cellB.vm.isStatics = false) (hcls : s.vm.findClass C = some cellB.cls)
    {g : JFrame} (hg : g.method = m) (hsize : g.locals.size = c.maxLocals) {argsL rest : List Value} (hlen : ∀ sig, parseMethodDescriptor y.desc = some sig → argsL.length = sig.parameters.length)
    (hstack : g.stack = argsL.reverse ++ .ref b :: rest) (hW : 2 * g.monitorRoom + (rest.map fun v => v.category).sum ≤ W9) (hdg : decode c.code g.pc = .ok (.invokevirtual index, 3))
    (hpre : ∀ vm₁, s.WarmedH vm₁ → Pre ⟨T.setVm vm₁, locs, cells, slots⟩ (Value.ref b :: argsL).toArray) :
    ∃ (v : Option Value) (vm₁ : Vm) (B : Pt), s.WarmedH vm₁ ∧ Stand p l e R s m args below meth c B.U B.locs B.cells B.slots ∧ Post ⟨T.setVm vm₁, locs, cells, slots⟩ (Value.ref b :: argsL).toArray v B ∧
      ∀ target, Steps p.tables e below (B.U.setTop { g with pc := g.pc + 3, stack := v.toList ++ rest }) target → Steps p.tables e below (T.setTop g) target := by
  obtain ⟨mk, methM, hnamed, hmethM, hstM, habM⟩ := Cond.instanceMethod_spec hinst
  obtain ⟨m8, methM', cM, hn8, hmethM', -, -, -, -, -, -, hsigM⟩ := Cond.codeWith_spec hcode
  cases Option.some.inj (hn8.symm.trans hnamed)
  cases hmethM.symm.trans hmethM'
  obtain ⟨c2, r2, m2, q1, q2, q3, q4, kP, hkP, hkPi⟩ := Cond.selects_spec hsel
  cases hcls.symm.trans q1
  cases (State.methodFound?_of_named hnamed hy).symm.trans q2
  cases hnamed.symm.trans q3
  have hselP : selectMethod e.platform s.vm cellB.cls mk = .method mk := by rw [Launch.admits_selectMethod X.admits]; exact q4
  obtain ⟨vm₁, X₁, hstep₁⟩ := X.invokevirtual hexec hown hlink hnamed hmethM hstM hkP hkPi hy (a := b) (cell := cellB) hcell
    (fun z h => by rw [h] at hobj; cases hobj) hselP hmethM habM hkP hkPi (g := g) hg (argsL := argsL) (rest := rest) (hlen _ hsigM) hstack hdg
  obtain ⟨v, B, X', hpost, hsteps⟩ := hK m meth c ⟨T.setVm vm₁, locs, cells, slots⟩ { g with stack := rest } (.invokevirtual index) mk (Value.ref b :: argsL).toArray X₁ hg hsize hdg hW (X₁.named hnamed) (hpre vm₁ X₁.warmed)
  exact ⟨v, vm₁, B, X₁.warmed, X', hpost, fun target h => hstep₁ _ fun acts => by rw [doInvoke_state]; exact hsteps.trans h⟩
abbrev vx_CVW (R : Room) (s : State) (args : Array Value) (own C : String) (index : Nat) (y : MethodName) (bytes : ByteArray) (maxL : Nat) (ret : Option FieldType) (hh : List (Nat × Nat × Nat × Nat)) (ws : List Cond) (rm : Room) (mc ms n : Nat) : Prop :=
  (rm.cells = mc ∧ rm.slots = ms ∧ rm.frames + 1 ≤ R.frames ∧ 8 + (maxL + 11) + rm.locals ≤ R.locals ∧ (∀ w ∈ ws, ∀ (a' : Array Value) (U : State), s.WarmedH U.vm → w.before a' U = true) ∧ Cond.codeWith y bytes maxL ret hh ∈ ws) ∧
  (Cond.codeWith y bytes maxL ret hh).before args s = true ∧ (Cond.initialized y.cls).before args s = true ∧ (y.cls ≠ "java/lang/invoke/MethodHandle" ∧ y.cls ≠ "java/lang/invoke/VarHandle") ∧
  (∀ sig, parseMethodDescriptor y.desc = some sig → n = sig.parameters.length) ∧ (Cond.methodLink own index y).before args s = true ∧ (Cond.instanceMethod y).before args s = true ∧ (Cond.selects C y y).before args s = true
theorem vx_cwVW {own C : String} {index maxL mc ms : Nat} {y : MethodName} {bytes : ByteArray} {ret : Option FieldType} {hh : List (Nat × Nat × Nat × Nat)} {Ts ws ws' : List Cond} {rm : Room} (n : Nat) (ht : ∀ w ∈ Ts, w.before args s = true) (hT : GoodIn Ts (wsV own index C y ws)) (hw : ws = Cond.codeWith y bytes maxL ret hh :: ws') (hrc : rm.cells = mc) (hrs : rm.slots = ms)
    (hd : y.cls = C ∧ y.cls ≠ "java/lang/invoke/MethodHandle" ∧ y.cls ≠ "java/lang/invoke/VarHandle" ∧ (parseMethodDescriptor y.desc).map (fun d => d.parameters.length) = some n) (hR : rm.frames + 1 ≤ R.frames ∧ 8 + (maxL + 11) + rm.locals ≤ R.locals) :
    vx_CVW R s args own C index y bytes maxL ret hh ws rm mc ms n := by
  obtain ⟨hC, hd⟩ := hd
  subst hC
  have ok : ∀ w ∈ wsV own index y.cls y ws, w.before args s = true := fun w h => ht w (hT w h).1
  have hG : GoodIn Ts ws := fun w h => hT w (by unfold wsV; exact List.mem_append_right _ h)
  have hc : Cond.codeWith y bytes maxL ret hh ∈ ws := by rw [hw]; exact List.mem_cons_self
  refine ⟨⟨hrc, hrs, hR.1, hR.2, pay_in ht hG, hc⟩, ht _ (hG _ hc).1, ok _ (by simp [wsV]), ⟨hd.1, hd.2.1⟩, fun sig h => ?_, ok _ (by simp [wsV]), ok _ (by simp [wsV]), ok _ (by simp [wsV])⟩
  have h2 := hd.2.2
  rw [h] at h2
  exact (Option.some.inj h2).symm
theorem vx_runVW {y : MethodName} {bytes cc : ByteArray} {maxL nL mc ms n index : Nat} {ret : Option FieldType} {hh : List (Nat × Nat × Nat × Nat)} {ws : List Cond} {rm : Room} {Pc : Array Value → State → Prop} {Qc : Array Value → State → Outcome → State → Prop} {free : Addr → Prop} {Ts : List Cond} {own C : String} {b : Addr} {As rest : List Value} {g : JFrame}
    (S : CallFix p m c cc nL s args Ts own) (hM : Met l y ws rm Pc Qc mc ms free) (cw : vx_CVW R s args own C index y bytes maxL ret hh ws rm mc ms n) (hp : PreV s H C b Pc As)
    (hg : g.method = m) (hn : As.length = n) (hsize : g.locals.size = nL) (hstack : g.stack = As.reverse ++ .ref b :: rest) (hW : 2 * g.monitorRoom + (rest.map fun v => v.category).sum ≤ 8) (hdg : decode cc g.pc = .ok (.invokevirtual index, 3)) (hf : cells + mc ≤ R.cells ∧ slots + ms ≤ R.slots) :
    va_Run p l e R s m args below meth c H locs cells slots mc ms g rest (Qc (Value.ref b :: As).toArray) free := by
  obtain ⟨⟨hrc, hrs, hfr, hlo, hws, hcw⟩, hcode, hini, hy, hlen, hl, hin, hse⟩ := cw
  have hK : Back l R p e below s args y 3 8 (PreOf R mc ms Pc) (PostOf Qc mc ms free) := va_backW (hh := hh) (bytes := bytes) (maxL := maxL) (ret := ret) hM hp.1 hrc hrs hfr hlo hws hcw (fun a' U hW => word_at hW (Or.inl (by first | rfl | simp [Cond.onTables, Cond.keeps, Cond.steady])) hini)
  obtain ⟨hx, hb, hml, ho, -⟩ := S
  obtain ⟨-, ⟨cellB, hcB, hoB, hclB⟩, hPc⟩ := hp
  intro T hT X
  obtain ⟨v, vm₁, ⟨U', l2, c2, s2⟩, hW₁, X', ⟨g', mk, t, L, e1, e2, hq, h1, hL, h2, h3⟩, st⟩ := vx_callVW X hx (C := C) (hh := hh) (bytes := bytes) (maxL := maxL) (ret := ret) ho hl hin hse hcode hy hK (by rw [hT]; exact hcB) hoB hclB hg (hsize.trans hml.symm) (argsL := As) (rest := rest) (fun sig h => hn.trans (hlen sig h)) hstack hW (by rw [hb]; exact hdg)
    (fun vm₁ hW₁ => ⟨hf.1, hf.2, hPc (T.setVm vm₁) hT hW₁⟩)
  dsimp only [Pt.U, Pt.locs, Pt.cells, Pt.slots] at X' e1 e2 h1 h2 h3 st
  subst h1; subst h2; subst h3
  exact ⟨v, (T.setVm vm₁).calling g' mk (Value.ref b :: As).toArray, t, U', L, hT, X', hL, e1, e2, hq, st⟩
section
variable {y : MethodName} {bytes cc : ByteArray} {maxL nL mc ms n index : Nat} {ret : Option FieldType} {ws : List Cond} {rm : Room} {Pc : Array Value → State → Prop} {Qc : Array Value → State → Outcome → State → Prop} {XC : String → State → State → Prop} {free : Addr → Prop} {Ts : List Cond} {own C : String} {b : Addr} {As rest : List Value} {g : JFrame}
theorem vx_runVX {hh : List (Nat × Nat × Nat × Nat)} (S : CallFix p m c cc nL s args Ts own) (hM : vx_Met l y ws rm Pc Qc XC mc ms free) (cw : vx_CVW R s args own C index y bytes maxL ret hh ws rm mc ms n) (hp : PreV s H C b Pc As)
    (hg : g.method = m) (hn : As.length = n) (hsize : g.locals.size = nL) (hstack : g.stack = As.reverse ++ .ref b :: rest) (hW : 2 * g.monitorRoom + (rest.map fun v => v.category).sum ≤ 8) (hdg : decode cc g.pc = .ok (.invokevirtual index, 3)) (hf : cells + mc ≤ R.cells ∧ slots + ms ≤ R.slots) :
    vx_Run p l e R s m args below meth c H locs cells slots mc ms g rest (Qc (Value.ref b :: As).toArray) XC free := by
  obtain ⟨⟨hrc, hrs, hfr, hlo, hws, hcw⟩, hcode, hini, hy, hlen, hl, hin, hse⟩ := cw
  have hK : vx_Back l R p e below s args y 3 8 (PreOf R mc ms Pc) (PostOf Qc mc ms free) (vx_Post XC mc ms free) := vx_backW (hh := hh) (bytes := bytes) (maxL := maxL) (ret := ret) hM hp.1 hrc hrs hfr hlo hws hcw (fun a' U hW => word_at hW (Or.inl (by first | rfl | simp [Cond.onTables, Cond.keeps, Cond.steady])) hini)
  obtain ⟨hx, hb, hml, ho, -⟩ := S
  obtain ⟨-, ⟨cellB, hcB, hoB, hclB⟩, hPc⟩ := hp
  intro T hT X
  rcases vx_callVX X hx (C := C) (hh := hh) (bytes := bytes) (maxL := maxL) (ret := ret) ho hl hin hse hcode hy hK (by rw [hT]; exact hcB) hoB hclB hg (hsize.trans hml.symm) (argsL := As) (rest := rest) (fun sig h => hn.trans (hlen sig h)) hstack hW (by rw [hb]; exact hdg)
    (fun vm₁ hW₁ => ⟨hf.1, hf.2, hPc (T.setVm vm₁) hT hW₁⟩) with ⟨v, vm₁, ⟨U', l2, c2, s2⟩, hW₁, X', ⟨g', mk, t, L, e1, e2, hq, h1, hL, h2, h3⟩, st⟩ | ⟨q, vm₁, ⟨U', l2, c2, s2⟩, hW₁, X', ⟨g', mk, t, L, E, ce, e1, e2, hq, hce, hcv, hcl, h1, hL, h2, h3⟩, st⟩
  · dsimp only [Pt.U, Pt.locs, Pt.cells, Pt.slots] at X' e1 e2 h1 h2 h3 st
    subst h1; subst h2; subst h3
    exact Or.inl ⟨v, (T.setVm vm₁).calling g' mk (Value.ref b :: As).toArray, t, U', L, hT, X', hL, e1, e2, hq, st⟩
  · dsimp only [Pt.U, Pt.locs, Pt.cells, Pt.slots] at X' e1 e2 h1 h2 h3 st hcl
    subst h1; subst h2; subst h3
    exact Or.inr ⟨q, (T.setVm vm₁).calling g' mk (Value.ref b :: As).toArray, t, U', L, E, ce, hT, X', hL, e1, e2, hq, hce, hcv, vx_cls hW₁ hcl, st⟩
theorem vx_runSX {hh : List (Nat × Nat × Nat × Nat)} (S : CallFix p m c cc nL s args Ts own) (hM : vx_Met l y ws rm Pc Qc XC mc ms free) (cw : vx_CSW R s args own index y bytes maxL ret hh ws rm mc ms n) (hp : PreS s H Pc As)
    (hg : g.method = m) (hn : As.length = n) (hsize : g.locals.size = nL) (hstack : g.stack = As.reverse ++ rest) (hW : 2 * g.monitorRoom + (rest.map fun v => v.category).sum ≤ 8) (hdg : decode cc g.pc = .ok (.invokestatic index, 3)) (hf : cells + mc ≤ R.cells ∧ slots + ms ≤ R.slots) :
    vx_Run p l e R s m args below meth c H locs cells slots mc ms g rest (Qc As.toArray) XC free := by
  obtain ⟨⟨hrc, hrs, hfr, hlo, hws, hcw⟩, hcode, hini, hy, hlen, hl, hstt⟩ := cw
  have hK : vx_Back l R p e below s args y 3 8 (PreOf R mc ms Pc) (PostOf Qc mc ms free) (vx_Post XC mc ms free) := vx_backW (hh := hh) (bytes := bytes) (maxL := maxL) (ret := ret) hM hp.1 hrc hrs hfr hlo hws hcw (fun a' U hW => word_at hW (Or.inl (by first | rfl | simp [Cond.onTables, Cond.keeps, Cond.steady])) hini)
  obtain ⟨hx, hb, hml, ho, -⟩ := S
  intro T hT X
  rcases vx_callSX X hx (hh := hh) (bytes := bytes) (maxL := maxL) (ret := ret) ho hl hstt hini hcode hy hK hg (hsize.trans hml.symm) (argsL := As) (rest := rest) (fun sig h => hn.trans (hlen sig h)) hstack hW (by rw [hb]; exact hdg)
    (fun vm₁ hW₁ => ⟨hf.1, hf.2, hp.2 (T.setVm vm₁) hT hW₁⟩) with ⟨v, vm₁, ⟨U', l2, c2, s2⟩, hW₁, X', ⟨g', mk, t, L, e1, e2, hq, h1, hL, h2, h3⟩, st⟩ | ⟨q, vm₁, ⟨U', l2, c2, s2⟩, hW₁, X', ⟨g', mk, t, L, E, ce, e1, e2, hq, hce, hcv, hcl, h1, hL, h2, h3⟩, st⟩
  · dsimp only [Pt.U, Pt.locs, Pt.cells, Pt.slots] at X' e1 e2 h1 h2 h3 st
    subst h1; subst h2; subst h3
    exact Or.inl ⟨v, (T.setVm vm₁).calling g' mk As.toArray, t, U', L, hT, X', hL, e1, e2, hq, st⟩
  · dsimp only [Pt.U, Pt.locs, Pt.cells, Pt.slots] at X' e1 e2 h1 h2 h3 st hcl
    subst h1; subst h2; subst h3
    exact Or.inr ⟨q, (T.setVm vm₁).calling g' mk As.toArray, t, U', L, E, ce, hT, X', hL, e1, e2, hq, hce, hcv, vx_cls hW₁ hcl, st⟩
end
end VXH
theorem vx_ofWH {l : Launch} {y : MethodName} {ws ws' : List Cond} {rm : Room} {Pc : Array Value → State → Prop} {Qc : Array Value → State → Outcome → State → Prop} {XC : String → State → State → Prop} {mc ms : Nat} {free : Addr → Prop} {cc : ByteArray} {maxL : Nat} {ret : Option FieldType} {hh : List (Nat × Nat × Nat × Nat)}
    (hy : plainName y.cls = true) (hw : ws = Cond.codeWith y cc maxL ret hh :: ws')
    (body : ∀ p e s m args below meth c s₁, BodyLoose p l y (headSpec ws rm) cc maxL ret e s m args below meth c s₁ → c.maxLocals = maxL → Pc args s →
      W p l e (headSpec ws rm).room s m args below meth c s.heap [] 0 0 (vx_MQ below Qc XC args s mc ms free) (entryFrame m args maxL)) : vx_Met l y ws rm Pc Qc XC mc ms free := by
  refine MetFree.of_bodyS (code := cc) (maxLocals := maxL) (ret := ret) hy ?_ ?_
  · intro args s m h hn
    obtain ⟨m9, meth, c, hn9, h1, h2, h3, h4, -, h5, h6, -⟩ := Cond.codeWith_spec (atoms_spec (ws := ws) h _ (by rw [hw]; exact List.mem_cons_self))
    cases hn.symm.trans hn9
    exact ⟨meth, c, h1, h2, h3, h4, h5, h6⟩
  · intro p e s m args below meth c s₁ B hml hP _
    have hh0 : s₁.heap = s.heap := by rw [B.state]; rfl
    obtain ⟨t, a1, o, b1, b2, b3⟩ := body p e s m args below meth c s₁ B hml hP s₁ hh0 (Stand.of_body B)
    exact ⟨t, o, a1, b1, b2, b3⟩
/-! ===== END ===== -/
end
section
def RX0 : String := "OddChoir$ChantText"
def TX0 : u_T := fun k => match k with
  | 0 => ("OddChoir$ChantText", "codes", "[C", true)
  | _ => ("OddChoir$ChantText", "length", "I", false)
def tyX0 : Nat → FieldType := fun k => match k with
  | 0 => .array .char
  | _ => .int
abbrev wsX00 : List Cond := u_ws RX0 TX0 2
theorem nmX0 : ∀ a, a < 2 → ∀ b, b < 2 → a ≠ b → (TX0 a).2.1 ≠ (TX0 b).2.1 := by decide +kernel
theorem tyX0_ok : ∀ k, k < 2 → parseFieldDescriptor (TX0 k).2.2.1 = some (tyX0 k) := by decide +kernel
abbrev cX0_init : ByteArray := prog_2_method_1_code
def yX0_init : MethodName := ⟨RX0, "<init>", "()V"⟩
abbrev cX0_size : ByteArray := prog_2_method_2_code
def yX0_size : MethodName := ⟨RX0, "size", "()I"⟩
abbrev cX0_add : ByteArray := prog_2_method_3_code
def yX0_add : MethodName := ⟨RX0, "add", "(C)V"⟩
abbrev cX0_empty : ByteArray := prog_2_method_4_code
def yX0_empty : MethodName := ⟨RX0, "empty", "()V"⟩
abbrev cX0_codeAt : ByteArray := prog_2_method_5_code
def yX0_codeAt : MethodName := ⟨RX0, "codeAt", "(I)C"⟩
abbrev cX0_digitAt : ByteArray := prog_2_method_6_code
def yX0_digitAt : MethodName := ⟨RX0, "digitAt", "(I)I"⟩
abbrev cX0_formAt : ByteArray := prog_2_method_7_code
def yX0_formAt : MethodName := ⟨RX0, "formAt", "(I)Ljava/lang/String;"⟩
abbrev cX0_endOfPart : ByteArray := prog_2_method_8_code
def yX0_endOfPart : MethodName := ⟨RX0, "endOfPart", "(I)I"⟩
abbrev cX0_firstMisfit : ByteArray := prog_2_method_9_code
def yX0_firstMisfit : MethodName := ⟨RX0, "firstMisfit", "()I"⟩
abbrev cX0_isWhole : ByteArray := prog_2_method_10_code
def yX0_isWhole : MethodName := ⟨RX0, "isWhole", "()Z"⟩
abbrev cX0_fits : ByteArray := prog_2_method_11_code
def yX0_fits : MethodName := ⟨RX0, "fits", "(Ljava/lang/String;II)Z"⟩
abbrev cX0_isTopHeight : ByteArray := prog_2_method_12_code
def yX0_isTopHeight : MethodName := ⟨RX0, "isTopHeight", "(I)Z"⟩
def RX1 : String := "OddChoir$Choir"
def TX1 : u_T := fun k => match k with
  | 0 => ("OddChoir$Choir", "sizes", "[I", true)
  | 1 => ("OddChoir$Choir", "numbers", "[I", true)
  | 2 => ("OddChoir$Choir", "heights", "[I", true)
  | 3 => ("OddChoir$Choir", "voices", "[I", true)
  | 4 => ("OddChoir$Choir", "reach", "I", false)
  | 5 => ("OddChoir$Choir", "behind", "I", false)
  | 6 => ("OddChoir$Choir", "came", "I", false)
  | 7 => ("OddChoir$Choir", "left", "I", false)
  | _ => ("OddChoir$Choir", "swaps", "I", false)
def tyX1 : Nat → FieldType := fun k => match k with
  | 0 => .array .int
  | 1 => .array .int
  | 2 => .array .int
  | 3 => .array .int
  | 4 => .int
  | 5 => .int
  | 6 => .int
  | 7 => .int
  | _ => .int
abbrev wsX10 : List Cond := u_ws RX1 TX1 9
theorem nmX1 : ∀ a, a < 9 → ∀ b, b < 9 → a ≠ b → (TX1 a).2.1 ≠ (TX1 b).2.1 := by decide +kernel
theorem tyX1_ok : ∀ k, k < 9 → parseFieldDescriptor (TX1 k).2.2.1 = some (tyX1 k) := by decide +kernel
abbrev cX1_init : ByteArray := prog_3_method_1_code
def yX1_init : MethodName := ⟨RX1, "<init>", "()V"⟩
abbrev cX1_become : ByteArray := prog_3_method_2_code
def yX1_become : MethodName := ⟨RX1, "become", "(LOddChoir$Choir;)V"⟩
abbrev cX1_copyCells : ByteArray := prog_3_method_3_code
def yX1_copyCells : MethodName := ⟨RX1, "copyCells", "([I[I)V"⟩
abbrev cX1_settingAt : ByteArray := prog_3_method_4_code
def yX1_settingAt : MethodName := ⟨RX1, "settingAt", "(I)I"⟩
abbrev cX1_changeSetting : ByteArray := prog_3_method_5_code
def yX1_changeSetting : MethodName := ⟨RX1, "changeSetting", "(II)V"⟩
abbrev cX1_sizeOf : ByteArray := prog_3_method_6_code
def yX1_sizeOf : MethodName := ⟨RX1, "sizeOf", "(I)I"⟩
abbrev cX1_sizeOfAll : ByteArray := prog_3_method_7_code
def yX1_sizeOfAll : MethodName := ⟨RX1, "sizeOfAll", "()I"⟩
abbrev cX1_changeSize : ByteArray := prog_3_method_8_code
def yX1_changeSize : MethodName := ⟨RX1, "changeSize", "(II)V"⟩
abbrev cX1_isTaken : ByteArray := prog_3_method_9_code
def yX1_isTaken : MethodName := ⟨RX1, "isTaken", "(II)Z"⟩
abbrev cX1_hasRoomFor : ByteArray := prog_3_method_10_code
def yX1_hasRoomFor : MethodName := ⟨RX1, "hasRoomFor", "(I)Z"⟩
abbrev cX1_spotAt : ByteArray := prog_3_method_11_code
def yX1_spotAt : MethodName := ⟨RX1, "spotAt", "(II)I"⟩
abbrev cX1_numberAt : ByteArray := prog_3_method_12_code
def yX1_numberAt : MethodName := ⟨RX1, "numberAt", "(II)I"⟩
abbrev cX1_heightAt : ByteArray := prog_3_method_13_code
def yX1_heightAt : MethodName := ⟨RX1, "heightAt", "(II)I"⟩
abbrev cX1_voiceAt : ByteArray := prog_3_method_14_code
def yX1_voiceAt : MethodName := ⟨RX1, "voiceAt", "(II)I"⟩
abbrev cX1_spotOfNumber : ByteArray := prog_3_method_15_code
def yX1_spotOfNumber : MethodName := ⟨RX1, "spotOfNumber", "(I)I"⟩
abbrev cX1_arrive : ByteArray := prog_3_method_16_code
def yX1_arrive : MethodName := ⟨RX1, "arrive", "(III)I"⟩
abbrev cX1_dismiss : ByteArray := prog_3_method_17_code
def yX1_dismiss : MethodName := ⟨RX1, "dismiss", "(II)I"⟩
abbrev cX1_moveOver : ByteArray := prog_3_method_18_code
def yX1_moveOver : MethodName := ⟨RX1, "moveOver", "(III)I"⟩
abbrev cX1_moveToRightEnd : ByteArray := prog_3_method_19_code
def yX1_moveToRightEnd : MethodName := ⟨RX1, "moveToRightEnd", "(II)V"⟩
abbrev cX1_changeHeight : ByteArray := prog_3_method_20_code
def yX1_changeHeight : MethodName := ⟨RX1, "changeHeight", "(III)V"⟩
abbrev cX1_swapPlaces : ByteArray := prog_3_method_21_code
def yX1_swapPlaces : MethodName := ⟨RX1, "swapPlaces", "(IIII)V"⟩
abbrev cX1_swapCells : ByteArray := prog_3_method_22_code
def yX1_swapCells : MethodName := ⟨RX1, "swapCells", "([III)V"⟩
abbrev cX1_swapAndCount : ByteArray := prog_3_method_23_code
def yX1_swapAndCount : MethodName := ⟨RX1, "swapAndCount", "(IIII)V"⟩
abbrev cX1_turnRound : ByteArray := prog_3_method_24_code
def yX1_turnRound : MethodName := ⟨RX1, "turnRound", "(I)V"⟩
abbrev cX1_putInOrder : ByteArray := prog_3_method_25_code
def yX1_putInOrder : MethodName := ⟨RX1, "putInOrder", "(II)V"⟩
abbrev cX1_rankAt : ByteArray := prog_3_method_26_code
def yX1_rankAt : MethodName := ⟨RX1, "rankAt", "(III)I"⟩
abbrev cX1_highestOf : ByteArray := prog_3_method_27_code
def yX1_highestOf : MethodName := ⟨RX1, "highestOf", "(I)I"⟩
abbrev cX1_discordOf : ByteArray := prog_3_method_28_code
def yX1_discordOf : MethodName := ⟨RX1, "discordOf", "(I)I"⟩
abbrev cX1_discordOfAll : ByteArray := prog_3_method_29_code
def yX1_discordOfAll : MethodName := ⟨RX1, "discordOfAll", "()I"⟩
abbrev cX1_rowBehind : ByteArray := prog_3_method_30_code
def yX1_rowBehind : MethodName := ⟨RX1, "rowBehind", "(I)I"⟩
abbrev cX1_rowBefore : ByteArray := prog_3_method_31_code
def yX1_rowBefore : MethodName := ⟨RX1, "rowBefore", "(I)I"⟩
abbrev cX1_heardBy : ByteArray := prog_3_method_32_code
def yX1_heardBy : MethodName := ⟨RX1, "heardBy", "(II)I"⟩
abbrev cX1_hearersOf : ByteArray := prog_3_method_33_code
def yX1_hearersOf : MethodName := ⟨RX1, "hearersOf", "(II)I"⟩
abbrev cX1_higherHeardBy : ByteArray := prog_3_method_34_code
def yX1_higherHeardBy : MethodName := ⟨RX1, "higherHeardBy", "(II)I"⟩
abbrev cX1_higherBehind : ByteArray := prog_3_method_35_code
def yX1_higherBehind : MethodName := ⟨RX1, "higherBehind", "(III)I"⟩
abbrev cX1_higherByTree : ByteArray := prog_3_method_36_code
def yX1_higherByTree : MethodName := ⟨RX1, "higherByTree", "(LOddChoir$HeightTree;II)I"⟩
abbrev cX1_singersBetween : ByteArray := prog_3_method_37_code
def yX1_singersBetween : MethodName := ⟨RX1, "singersBetween", "(III)I"⟩
abbrev cX1_higherBetween : ByteArray := prog_3_method_38_code
def yX1_higherBetween : MethodName := ⟨RX1, "higherBetween", "(IIII)I"⟩
abbrev cX1_putBetween : ByteArray := prog_3_method_39_code
def yX1_putBetween : MethodName := ⟨RX1, "putBetween", "(LOddChoir$HeightTree;III)V"⟩
abbrev cX1_oddIn : ByteArray := prog_3_method_40_code
def yX1_oddIn : MethodName := ⟨RX1, "oddIn", "(I)I"⟩
abbrev cX1_oddOfAll : ByteArray := prog_3_method_41_code
def yX1_oddOfAll : MethodName := ⟨RX1, "oddOfAll", "()I"⟩
abbrev cX1_writtenLength : ByteArray := prog_3_method_42_code
def yX1_writtenLength : MethodName := ⟨RX1, "writtenLength", "(I)I"⟩
abbrev cX1_writtenCode : ByteArray := prog_3_method_43_code
def yX1_writtenCode : MethodName := ⟨RX1, "writtenCode", "(II)I"⟩
abbrev cX1_letterOf : ByteArray := prog_3_method_44_code
def yX1_letterOf : MethodName := ⟨RX1, "letterOf", "(I)I"⟩
def RX2 : String := "OddChoir$HeightTree"
def TX2 : u_T := fun k => match k with
  | 0 => ("OddChoir$HeightTree", "nodes", "[LOddChoir$Node;", true)
  | 1 => ("OddChoir$HeightTree", "top", "LOddChoir$Node;", false)
  | _ => ("OddChoir$HeightTree", "used", "I", false)
def tyX2 : Nat → FieldType := fun k => match k with
  | 0 => .array (.object "OddChoir$Node")
  | 1 => .object "OddChoir$Node"
  | _ => .int
abbrev wsX20 : List Cond := u_ws RX2 TX2 3
theorem nmX2 : ∀ a, a < 3 → ∀ b, b < 3 → a ≠ b → (TX2 a).2.1 ≠ (TX2 b).2.1 := by decide +kernel
theorem tyX2_ok : ∀ k, k < 3 → parseFieldDescriptor (TX2 k).2.2.1 = some (tyX2 k) := by decide +kernel
abbrev cX2_init : ByteArray := prog_4_method_1_code
def yX2_init : MethodName := ⟨RX2, "<init>", "()V"⟩
abbrev cX2_fell : ByteArray := prog_4_method_2_code
def yX2_fell : MethodName := ⟨RX2, "fell", "()V"⟩
abbrev cX2_put : ByteArray := prog_4_method_3_code
def yX2_put : MethodName := ⟨RX2, "put", "(I)V"⟩
abbrev cX2_freshNode : ByteArray := prog_4_method_4_code
def yX2_freshNode : MethodName := ⟨RX2, "freshNode", "(I)LOddChoir$Node;"⟩
abbrev cX2_higherThan : ByteArray := prog_4_method_5_code
def yX2_higherThan : MethodName := ⟨RX2, "higherThan", "(I)I"⟩
abbrev cX2_allBelow : ByteArray := prog_4_method_6_code
def yX2_allBelow : MethodName := ⟨RX2, "allBelow", "(LOddChoir$Node;I)I"⟩
def RX3 : String := "OddChoir$History"
def TX3 : u_T := fun k => match k with
  | 0 => ("OddChoir$History", "saved", "[LOddChoir$Choir;", true)
  | 1 => ("OddChoir$History", "oldest", "I", false)
  | _ => ("OddChoir$History", "held", "I", false)
def tyX3 : Nat → FieldType := fun k => match k with
  | 0 => .array (.object "OddChoir$Choir")
  | 1 => .int
  | _ => .int
abbrev wsX30 : List Cond := u_ws RX3 TX3 3
theorem nmX3 : ∀ a, a < 3 → ∀ b, b < 3 → a ≠ b → (TX3 a).2.1 ≠ (TX3 b).2.1 := by decide +kernel
theorem tyX3_ok : ∀ k, k < 3 → parseFieldDescriptor (TX3 k).2.2.1 = some (tyX3 k) := by decide +kernel
abbrev cX3_init : ByteArray := prog_5_method_1_code
def yX3_init : MethodName := ⟨RX3, "<init>", "()V"⟩
abbrev cX3_size : ByteArray := prog_5_method_2_code
def yX3_size : MethodName := ⟨RX3, "size", "()I"⟩
abbrev cX3_save : ByteArray := prog_5_method_3_code
def yX3_save : MethodName := ⟨RX3, "save", "(LOddChoir$Choir;)V"⟩
abbrev cX3_takeBack : ByteArray := prog_5_method_4_code
def yX3_takeBack : MethodName := ⟨RX3, "takeBack", "(LOddChoir$Choir;)V"⟩
abbrev cX3_slotAt : ByteArray := prog_5_method_5_code
def yX3_slotAt : MethodName := ⟨RX3, "slotAt", "(I)LOddChoir$Choir;"⟩
def RX4 : String := "OddChoir$Node"
def TX4 : u_T := fun k => match k with
  | 0 => ("OddChoir$Node", "height", "I", false)
  | 1 => ("OddChoir$Node", "comers", "I", false)
  | 2 => ("OddChoir$Node", "lesser", "LOddChoir$Node;", false)
  | _ => ("OddChoir$Node", "greater", "LOddChoir$Node;", false)
def tyX4 : Nat → FieldType := fun k => match k with
  | 0 => .int
  | 1 => .int
  | 2 => .object "OddChoir$Node"
  | _ => .object "OddChoir$Node"
abbrev wsX40 : List Cond := u_ws RX4 TX4 4
theorem nmX4 : ∀ a, a < 4 → ∀ b, b < 4 → a ≠ b → (TX4 a).2.1 ≠ (TX4 b).2.1 := by decide +kernel
theorem tyX4_ok : ∀ k, k < 4 → parseFieldDescriptor (TX4 k).2.2.1 = some (tyX4 k) := by decide +kernel
abbrev cX4_init : ByteArray := prog_6_method_1_code
def yX4_init : MethodName := ⟨RX4, "<init>", "()V"⟩
def RX5 : String := "OddChoir$OrderSearch"
def TX5 : u_T := fun k => match k with
  | 0 => ("OddChoir$OrderSearch", "higherOnes", "[I", true)
  | 1 => ("OddChoir$OrderSearch", "oddBehind", "[I", true)
  | 2 => ("OddChoir$OrderSearch", "chosen", "[I", true)
  | 3 => ("OddChoir$OrderSearch", "size", "I", false)
  | 4 => ("OddChoir$OrderSearch", "reach", "I", false)
  | 5 => ("OddChoir$OrderSearch", "most", "I", false)
  | _ => ("OddChoir$OrderSearch", "way", "I", false)
def tyX5 : Nat → FieldType := fun k => match k with
  | 0 => .array .int
  | 1 => .array .int
  | 2 => .array .int
  | 3 => .int
  | 4 => .int
  | 5 => .int
  | _ => .int
abbrev wsX50 : List Cond := u_ws RX5 TX5 7
theorem nmX5 : ∀ a, a < 7 → ∀ b, b < 7 → a ≠ b → (TX5 a).2.1 ≠ (TX5 b).2.1 := by decide +kernel
theorem tyX5_ok : ∀ k, k < 7 → parseFieldDescriptor (TX5 k).2.2.1 = some (tyX5 k) := by decide +kernel
abbrev cX5_init : ByteArray := prog_7_method_1_code
def yX5_init : MethodName := ⟨RX5, "<init>", "()V"⟩
abbrev cX5_goThrough : ByteArray := prog_7_method_2_code
def yX5_goThrough : MethodName := ⟨RX5, "goThrough", "(LOddChoir$Choir;I)V"⟩
abbrev cX5_noteSinger : ByteArray := prog_7_method_3_code
def yX5_noteSinger : MethodName := ⟨RX5, "noteSinger", "(LOddChoir$Choir;II)V"⟩
abbrev cX5_choose : ByteArray := prog_7_method_4_code
def yX5_choose : MethodName := ⟨RX5, "choose", "(IIII)V"⟩
abbrev cX5_cannotBeBetter : ByteArray := prog_7_method_5_code
def yX5_cannotBeBetter : MethodName := ⟨RX5, "cannotBeBetter", "(II)Z"⟩
abbrev cX5_heardAt : ByteArray := prog_7_method_6_code
def yX5_heardAt : MethodName := ⟨RX5, "heardAt", "(II)I"⟩
abbrev cX5_parityOf : ByteArray := prog_7_method_7_code
def yX5_parityOf : MethodName := ⟨RX5, "parityOf", "(III)I"⟩
def RX6 : String := "OddChoir"
def TX6 : u_T := fun k => match k with
  | 0 => ("OddChoir", "now", "LOddChoir$Choir;", true)
  | 1 => ("OddChoir", "trial", "LOddChoir$Choir;", true)
  | 2 => ("OddChoir", "snapshot", "LOddChoir$Choir;", true)
  | 3 => ("OddChoir", "hasSnapshot", "Z", false)
  | 4 => ("OddChoir", "history", "LOddChoir$History;", true)
  | 5 => ("OddChoir", "text", "LOddChoir$ChantText;", true)
  | 6 => ("OddChoir", "tree", "LOddChoir$HeightTree;", true)
  | _ => ("OddChoir", "orders", "LOddChoir$OrderSearch;", true)
def tyX6 : Nat → FieldType := fun k => match k with
  | 0 => .object "OddChoir$Choir"
  | 1 => .object "OddChoir$Choir"
  | 2 => .object "OddChoir$Choir"
  | 3 => .boolean
  | 4 => .object "OddChoir$History"
  | 5 => .object "OddChoir$ChantText"
  | 6 => .object "OddChoir$HeightTree"
  | _ => .object "OddChoir$OrderSearch"
abbrev wsX60 : List Cond := u_ws RX6 TX6 8
theorem nmX6 : ∀ a, a < 8 → ∀ b, b < 8 → a ≠ b → (TX6 a).2.1 ≠ (TX6 b).2.1 := by decide +kernel
theorem tyX6_ok : ∀ k, k < 8 → parseFieldDescriptor (TX6 k).2.2.1 = some (tyX6 k) := by decide +kernel
abbrev cX6_init : ByteArray := prog_1_method_1_code
def yX6_init : MethodName := ⟨RX6, "<init>", "()V"⟩
abbrev cX6_join : ByteArray := prog_1_method_2_code
def yX6_join : MethodName := ⟨RX6, "join", "(III)I"⟩
abbrev cX6_leave : ByteArray := prog_1_method_3_code
def yX6_leave : MethodName := ⟨RX6, "leave", "(II)I"⟩
abbrev cX6_grow : ByteArray := prog_1_method_4_code
def yX6_grow : MethodName := ⟨RX6, "grow", "(III)I"⟩
abbrev cX6_swap : ByteArray := prog_1_method_5_code
def yX6_swap : MethodName := ⟨RX6, "swap", "(IIII)I"⟩
abbrev cX6_cross : ByteArray := prog_1_method_6_code
def yX6_cross : MethodName := ⟨RX6, "cross", "(III)I"⟩
abbrev cX6_turn : ByteArray := prog_1_method_7_code
def yX6_turn : MethodName := ⟨RX6, "turn", "(I)I"⟩
abbrev cX6_sort : ByteArray := prog_1_method_8_code
def yX6_sort : MethodName := ⟨RX6, "sort", "(II)I"⟩
abbrev cX6_set : ByteArray := prog_1_method_9_code
def yX6_set : MethodName := ⟨RX6, "set", "(II)I"⟩
abbrev cX6_append : ByteArray := prog_1_method_10_code
def yX6_append : MethodName := ⟨RX6, "append", "(I)I"⟩
abbrev cX6_clearBuffer : ByteArray := prog_1_method_11_code
def yX6_clearBuffer : MethodName := ⟨RX6, "clearBuffer", "()I"⟩
abbrev cX6_firstError : ByteArray := prog_1_method_12_code
def yX6_firstError : MethodName := ⟨RX6, "firstError", "()I"⟩
abbrev cX6_chant : ByteArray := prog_1_method_13_code
def yX6_chant : MethodName := ⟨RX6, "chant", "()I"⟩
abbrev cX6_written : ByteArray := prog_1_method_14_code
def yX6_written : MethodName := ⟨RX6, "written", "(II)I"⟩
abbrev cX6_undo : ByteArray := prog_1_method_15_code
def yX6_undo : MethodName := ⟨RX6, "undo", "()I"⟩
abbrev cX6_keep : ByteArray := prog_1_method_16_code
def yX6_keep : MethodName := ⟨RX6, "keep", "()I"⟩
abbrev cX6_restore : ByteArray := prog_1_method_17_code
def yX6_restore : MethodName := ⟨RX6, "restore", "()I"⟩
abbrev cX6_singer : ByteArray := prog_1_method_18_code
def yX6_singer : MethodName := ⟨RX6, "singer", "(III)I"⟩
abbrev cX6_row : ByteArray := prog_1_method_19_code
def yX6_row : MethodName := ⟨RX6, "row", "(II)I"⟩
abbrev cX6_find : ByteArray := prog_1_method_20_code
def yX6_find : MethodName := ⟨RX6, "find", "(I)I"⟩
abbrev cX6_count : ByteArray := prog_1_method_21_code
def yX6_count : MethodName := ⟨RX6, "count", "(I)I"⟩
abbrev cX6_ifSwapped : ByteArray := prog_1_method_22_code
def yX6_ifSwapped : MethodName := ⟨RX6, "ifSwapped", "(IIII)I"⟩
abbrev cX6_bestSwap : ByteArray := prog_1_method_23_code
def yX6_bestSwap : MethodName := ⟨RX6, "bestSwap", "(I)I"⟩
abbrev cX6_bestRow : ByteArray := prog_1_method_24_code
def yX6_bestRow : MethodName := ⟨RX6, "bestRow", "(I)I"⟩
abbrev cX6_ifReach : ByteArray := prog_1_method_25_code
def yX6_ifReach : MethodName := ⟨RX6, "ifReach", "(I)I"⟩
abbrev cX6_oddShare : ByteArray := prog_1_method_26_code
def yX6_oddShare : MethodName := ⟨RX6, "oddShare", "()D"⟩
abbrev cX6_digest : ByteArray := prog_1_method_27_code
def yX6_digest : MethodName := ⟨RX6, "digest", "()J"⟩
abbrev cX6_needIndex : ByteArray := prog_1_method_28_code
def yX6_needIndex : MethodName := ⟨RX6, "needIndex", "(Z)V"⟩
abbrev cX6_needArgument : ByteArray := prog_1_method_29_code
def yX6_needArgument : MethodName := ⟨RX6, "needArgument", "(Z)V"⟩
abbrev cX6_needState : ByteArray := prog_1_method_30_code
def yX6_needState : MethodName := ⟨RX6, "needState", "(Z)V"⟩
abbrev cX6_needRow : ByteArray := prog_1_method_31_code
def yX6_needRow : MethodName := ⟨RX6, "needRow", "(I)V"⟩
abbrev cX6_needSinger : ByteArray := prog_1_method_32_code
def yX6_needSinger : MethodName := ⟨RX6, "needSinger", "(II)V"⟩
abbrev cX6_needHeight : ByteArray := prog_1_method_33_code
def yX6_needHeight : MethodName := ⟨RX6, "needHeight", "(I)V"⟩
abbrev cX6_isBetween : ByteArray := prog_1_method_34_code
def yX6_isBetween : MethodName := ⟨RX6, "isBetween", "(III)Z"⟩
abbrev cX6_readCell : ByteArray := prog_1_method_35_code
def yX6_readCell : MethodName := ⟨RX6, "readCell", "([II)I"⟩
abbrev cX6_writeCell : ByteArray := prog_1_method_36_code
def yX6_writeCell : MethodName := ⟨RX6, "writeCell", "([III)V"⟩
abbrev cX6_doPart : ByteArray := prog_1_method_37_code
def yX6_doPart : MethodName := ⟨RX6, "doPart", "(I)Z"⟩
abbrev cX6_joinByText : ByteArray := prog_1_method_38_code
def yX6_joinByText : MethodName := ⟨RX6, "joinByText", "(I)Z"⟩
abbrev cX6_swapByText : ByteArray := prog_1_method_39_code
def yX6_swapByText : MethodName := ⟨RX6, "swapByText", "(I)Z"⟩
abbrev cX6_ofSinger : ByteArray := prog_1_method_40_code
def yX6_ofSinger : MethodName := ⟨RX6, "ofSinger", "(III)I"⟩
abbrev cX6_ofRow : ByteArray := prog_1_method_41_code
def yX6_ofRow : MethodName := ⟨RX6, "ofRow", "(II)I"⟩
abbrev cX6_ofAll : ByteArray := prog_1_method_42_code
def yX6_ofAll : MethodName := ⟨RX6, "ofAll", "(I)I"⟩
abbrev cX6_bestPair : ByteArray := prog_1_method_43_code
def yX6_bestPair : MethodName := ⟨RX6, "bestPair", "(I)I"⟩
abbrev cX6_bestRowFor : ByteArray := prog_1_method_44_code
def yX6_bestRowFor : MethodName := ⟨RX6, "bestRowFor", "(I)I"⟩
abbrev cX6_oddWithReach : ByteArray := prog_1_method_45_code
def yX6_oddWithReach : MethodName := ⟨RX6, "oddWithReach", "(I)I"⟩
abbrev cX6_mix : ByteArray := prog_1_method_46_code
def yX6_mix : MethodName := ⟨RX6, "mix", "(JJ)J"⟩
abbrev cX6_mixSingers : ByteArray := prog_1_method_47_code
def yX6_mixSingers : MethodName := ⟨RX6, "mixSingers", "(JI)J"⟩
abbrev cX6_mixWritten : ByteArray := prog_1_method_48_code
def yX6_mixWritten : MethodName := ⟨RX6, "mixWritten", "(JI)J"⟩
abbrev cX6_mixText : ByteArray := prog_1_method_49_code
def yX6_mixText : MethodName := ⟨RX6, "mixText", "(J)J"⟩
abbrev cX6_bitsOfShare : ByteArray := prog_1_method_50_code
def yX6_bitsOfShare : MethodName := ⟨RX6, "bitsOfShare", "(D)J"⟩
def RX7 : String := "OddChoirModel"
def TX7 : u_T := fun k => match k with
  | 0 => ("OddChoirModel", "z", "[I", true)
  | 1 => ("OddChoirModel", "saved", "[I", true)
  | 2 => ("OddChoirModel", "savedMany", "I", false)
  | 3 => ("OddChoirModel", "snapshot", "[I", true)
  | 4 => ("OddChoirModel", "isKept", "Z", false)
  | 5 => ("OddChoirModel", "thrown", "I", false)
  | 6 => ("OddChoirModel", "order", "[I", true)
  | 7 => ("OddChoirModel", "heights", "[I", true)
  | 8 => ("OddChoirModel", "most", "I", false)
  | 9 => ("OddChoirModel", "way", "I", false)
  | 10 => ("OddChoirModel", "buffer", "[I", true)
  | 11 => ("OddChoirModel", "length", "I", false)
  | 12 => ("OddChoirModel", "spot", "I", false)
  | 13 => ("OddChoirModel", "parts", "I", false)
  | 14 => ("OddChoirModel", "letter", "[I", true)
  | 15 => ("OddChoirModel", "partRow", "[I", true)
  | 16 => ("OddChoirModel", "first", "[I", true)
  | 17 => ("OddChoirModel", "second", "[I", true)
  | _ => ("OddChoirModel", "hash", "J", false)
def tyX7 : Nat → FieldType := fun k => match k with
  | 0 => .array .int
  | 1 => .array .int
  | 2 => .int
  | 3 => .array .int
  | 4 => .boolean
  | 5 => .int
  | 6 => .array .int
  | 7 => .array .int
  | 8 => .int
  | 9 => .int
  | 10 => .array .int
  | 11 => .int
  | 12 => .int
  | 13 => .int
  | 14 => .array .int
  | 15 => .array .int
  | 16 => .array .int
  | 17 => .array .int
  | _ => .long
abbrev wsX70 : List Cond := u_ws RX7 TX7 19
theorem nmX7 : ∀ a, a < 19 → ∀ b, b < 19 → a ≠ b → (TX7 a).2.1 ≠ (TX7 b).2.1 := by decide +kernel
theorem tyX7_ok : ∀ k, k < 19 → parseFieldDescriptor (TX7 k).2.2.1 = some (tyX7 k) := by decide +kernel
abbrev cX7_init : ByteArray := prog_9_method_1_code
def yX7_init : MethodName := ⟨RX7, "<init>", "()V"⟩
abbrev cX7_thrown : ByteArray := prog_9_method_2_code
def yX7_thrown : MethodName := ⟨RX7, "thrown", "()I"⟩
abbrev cX7_fails : ByteArray := prog_9_method_3_code
def yX7_fails : MethodName := ⟨RX7, "fails", "(I)I"⟩
abbrev cX7_in : ByteArray := prog_9_method_4_code
def yX7_in : MethodName := ⟨RX7, "in", "(III)Z"⟩
abbrev cX7_isRow : ByteArray := prog_9_method_5_code
def yX7_isRow : MethodName := ⟨RX7, "isRow", "(I)Z"⟩
abbrev cX7_isPlace : ByteArray := prog_9_method_6_code
def yX7_isPlace : MethodName := ⟨RX7, "isPlace", "(II)Z"⟩
abbrev cX7_isHeight : ByteArray := prog_9_method_7_code
def yX7_isHeight : MethodName := ⟨RX7, "isHeight", "(I)Z"⟩
abbrev cX7_save : ByteArray := prog_9_method_8_code
def yX7_save : MethodName := ⟨RX7, "save", "()V"⟩
abbrev cX7_singers : ByteArray := prog_9_method_9_code
def yX7_singers : MethodName := ⟨RX7, "singers", "()I"⟩
abbrev cX7_undo : ByteArray := prog_9_method_10_code
def yX7_undo : MethodName := ⟨RX7, "undo", "()I"⟩
abbrev cX7_keep : ByteArray := prog_9_method_11_code
def yX7_keep : MethodName := ⟨RX7, "keep", "()I"⟩
abbrev cX7_restore : ByteArray := prog_9_method_12_code
def yX7_restore : MethodName := ⟨RX7, "restore", "()I"⟩
abbrev cX7_heightAt : ByteArray := prog_9_method_13_code
def yX7_heightAt : MethodName := ⟨RX7, "heightAt", "(II)I"⟩
abbrev cX7_hearsBehind : ByteArray := prog_9_method_14_code
def yX7_hearsBehind : MethodName := ⟨RX7, "hearsBehind", "(I)Z"⟩
abbrev cX7_hears : ByteArray := prog_9_method_15_code
def yX7_hears : MethodName := ⟨RX7, "hears", "(IIII)Z"⟩
abbrev cX7_heard : ByteArray := prog_9_method_16_code
def yX7_heard : MethodName := ⟨RX7, "heard", "(II)I"⟩
abbrev cX7_hearers : ByteArray := prog_9_method_17_code
def yX7_hearers : MethodName := ⟨RX7, "hearers", "(II)I"⟩
abbrev cX7_higher : ByteArray := prog_9_method_18_code
def yX7_higher : MethodName := ⟨RX7, "higher", "(II)I"⟩
abbrev cX7_oddIn : ByteArray := prog_9_method_19_code
def yX7_oddIn : MethodName := ⟨RX7, "oddIn", "(I)I"⟩
abbrev cX7_odd : ByteArray := prog_9_method_20_code
def yX7_odd : MethodName := ⟨RX7, "odd", "()I"⟩
abbrev cX7_discord : ByteArray := prog_9_method_21_code
def yX7_discord : MethodName := ⟨RX7, "discord", "(I)I"⟩
abbrev cX7_nextOrder : ByteArray := prog_9_method_22_code
def yX7_nextOrder : MethodName := ⟨RX7, "nextOrder", "(I)Z"⟩
abbrev cX7_swapOrder : ByteArray := prog_9_method_23_code
def yX7_swapOrder : MethodName := ⟨RX7, "swapOrder", "(II)V"⟩
abbrev cX7_swapsOf : ByteArray := prog_9_method_24_code
def yX7_swapsOf : MethodName := ⟨RX7, "swapsOf", "(I)I"⟩
abbrev cX7_tryOrders : ByteArray := prog_9_method_25_code
def yX7_tryOrders : MethodName := ⟨RX7, "tryOrders", "(I)V"⟩
abbrev cX7_joinNow : ByteArray := prog_9_method_26_code
def yX7_joinNow : MethodName := ⟨RX7, "joinNow", "(III)I"⟩
abbrev cX7_removeNow : ByteArray := prog_9_method_27_code
def yX7_removeNow : MethodName := ⟨RX7, "removeNow", "(II)V"⟩
abbrev cX7_copy : ByteArray := prog_9_method_28_code
def yX7_copy : MethodName := ⟨RX7, "copy", "(II)V"⟩
abbrev cX7_clear : ByteArray := prog_9_method_29_code
def yX7_clear : MethodName := ⟨RX7, "clear", "(I)V"⟩
abbrev cX7_exchange : ByteArray := prog_9_method_30_code
def yX7_exchange : MethodName := ⟨RX7, "exchange", "(II)V"⟩
abbrev cX7_turnNow : ByteArray := prog_9_method_31_code
def yX7_turnNow : MethodName := ⟨RX7, "turnNow", "(I)V"⟩
abbrev cX7_isBehind : ByteArray := prog_9_method_32_code
def yX7_isBehind : MethodName := ⟨RX7, "isBehind", "(III)Z"⟩
abbrev cX7_sortNow : ByteArray := prog_9_method_33_code
def yX7_sortNow : MethodName := ⟨RX7, "sortNow", "(II)V"⟩
abbrev cX7_hasRoom : ByteArray := prog_9_method_34_code
def yX7_hasRoom : MethodName := ⟨RX7, "hasRoom", "(I)Z"⟩
abbrev cX7_join : ByteArray := prog_9_method_35_code
def yX7_join : MethodName := ⟨RX7, "join", "(III)I"⟩
abbrev cX7_leave : ByteArray := prog_9_method_36_code
def yX7_leave : MethodName := ⟨RX7, "leave", "(II)I"⟩
abbrev cX7_grow : ByteArray := prog_9_method_37_code
def yX7_grow : MethodName := ⟨RX7, "grow", "(III)I"⟩
abbrev cX7_swap : ByteArray := prog_9_method_38_code
def yX7_swap : MethodName := ⟨RX7, "swap", "(IIII)I"⟩
abbrev cX7_cross : ByteArray := prog_9_method_39_code
def yX7_cross : MethodName := ⟨RX7, "cross", "(III)I"⟩
abbrev cX7_turn : ByteArray := prog_9_method_40_code
def yX7_turn : MethodName := ⟨RX7, "turn", "(I)I"⟩
abbrev cX7_sort : ByteArray := prog_9_method_41_code
def yX7_sort : MethodName := ⟨RX7, "sort", "(II)I"⟩
abbrev cX7_set : ByteArray := prog_9_method_42_code
def yX7_set : MethodName := ⟨RX7, "set", "(II)I"⟩
abbrev cX7_append : ByteArray := prog_9_method_43_code
def yX7_append : MethodName := ⟨RX7, "append", "(I)I"⟩
abbrev cX7_clearBuffer : ByteArray := prog_9_method_44_code
def yX7_clearBuffer : MethodName := ⟨RX7, "clearBuffer", "()I"⟩
abbrev cX7_isAt : ByteArray := prog_9_method_45_code
def yX7_isAt : MethodName := ⟨RX7, "isAt", "(II)Z"⟩
abbrev cX7_takes : ByteArray := prog_9_method_46_code
def yX7_takes : MethodName := ⟨RX7, "takes", "(II)Z"⟩
abbrev cX7_takesSign : ByteArray := prog_9_method_47_code
def yX7_takesSign : MethodName := ⟨RX7, "takesSign", "(I)Z"⟩
abbrev cX7_takesWord : ByteArray := prog_9_method_48_code
def yX7_takesWord : MethodName := ⟨RX7, "takesWord", "(III)Z"⟩
abbrev cX7_readWord : ByteArray := prog_9_method_49_code
def yX7_readWord : MethodName := ⟨RX7, "readWord", "(I)Z"⟩
abbrev cX7_digit : ByteArray := prog_9_method_50_code
def yX7_digit : MethodName := ⟨RX7, "digit", "(I)I"⟩
abbrev cX7_readHeight : ByteArray := prog_9_method_51_code
def yX7_readHeight : MethodName := ⟨RX7, "readHeight", "()Z"⟩
abbrev cX7_readVoice : ByteArray := prog_9_method_52_code
def yX7_readVoice : MethodName := ⟨RX7, "readVoice", "()Z"⟩
abbrev cX7_readPlaces : ByteArray := prog_9_method_53_code
def yX7_readPlaces : MethodName := ⟨RX7, "readPlaces", "()Z"⟩
abbrev cX7_readPart : ByteArray := prog_9_method_54_code
def yX7_readPart : MethodName := ⟨RX7, "readPart", "()Z"⟩
abbrev cX7_isChants : ByteArray := prog_9_method_55_code
def yX7_isChants : MethodName := ⟨RX7, "isChants", "()Z"⟩
abbrev cX7_firstError : ByteArray := prog_9_method_56_code
def yX7_firstError : MethodName := ⟨RX7, "firstError", "()I"⟩
abbrev cX7_canDo : ByteArray := prog_9_method_57_code
def yX7_canDo : MethodName := ⟨RX7, "canDo", "(I)Z"⟩
abbrev cX7_doPart : ByteArray := prog_9_method_58_code
def yX7_doPart : MethodName := ⟨RX7, "doPart", "(I)V"⟩
abbrev cX7_chant : ByteArray := prog_9_method_59_code
def yX7_chant : MethodName := ⟨RX7, "chant", "()I"⟩
abbrev cX7_writtenAt : ByteArray := prog_9_method_60_code
def yX7_writtenAt : MethodName := ⟨RX7, "writtenAt", "(II)I"⟩
abbrev cX7_written : ByteArray := prog_9_method_61_code
def yX7_written : MethodName := ⟨RX7, "written", "(II)I"⟩
abbrev cX7_ofSinger : ByteArray := prog_9_method_62_code
def yX7_ofSinger : MethodName := ⟨RX7, "ofSinger", "(III)I"⟩
abbrev cX7_singer : ByteArray := prog_9_method_63_code
def yX7_singer : MethodName := ⟨RX7, "singer", "(III)I"⟩
abbrev cX7_highest : ByteArray := prog_9_method_64_code
def yX7_highest : MethodName := ⟨RX7, "highest", "(I)I"⟩
abbrev cX7_ofRow : ByteArray := prog_9_method_65_code
def yX7_ofRow : MethodName := ⟨RX7, "ofRow", "(II)I"⟩
abbrev cX7_row : ByteArray := prog_9_method_66_code
def yX7_row : MethodName := ⟨RX7, "row", "(II)I"⟩
abbrev cX7_placeOf : ByteArray := prog_9_method_67_code
def yX7_placeOf : MethodName := ⟨RX7, "placeOf", "(I)I"⟩
abbrev cX7_find : ByteArray := prog_9_method_68_code
def yX7_find : MethodName := ⟨RX7, "find", "(I)I"⟩
abbrev cX7_number : ByteArray := prog_9_method_69_code
def yX7_number : MethodName := ⟨RX7, "number", "(I)I"⟩
abbrev cX7_count : ByteArray := prog_9_method_70_code
def yX7_count : MethodName := ⟨RX7, "count", "(I)I"⟩
abbrev cX7_oddIfSwapped : ByteArray := prog_9_method_71_code
def yX7_oddIfSwapped : MethodName := ⟨RX7, "oddIfSwapped", "(II)I"⟩
abbrev cX7_ifSwapped : ByteArray := prog_9_method_72_code
def yX7_ifSwapped : MethodName := ⟨RX7, "ifSwapped", "(IIII)I"⟩
abbrev cX7_bestOf : ByteArray := prog_9_method_73_code
def yX7_bestOf : MethodName := ⟨RX7, "bestOf", "(I)I"⟩
abbrev cX7_bestSwap : ByteArray := prog_9_method_74_code
def yX7_bestSwap : MethodName := ⟨RX7, "bestSwap", "(I)I"⟩
abbrev cX7_oddWith : ByteArray := prog_9_method_75_code
def yX7_oddWith : MethodName := ⟨RX7, "oddWith", "(II)I"⟩
abbrev cX7_bestRowFor : ByteArray := prog_9_method_76_code
def yX7_bestRowFor : MethodName := ⟨RX7, "bestRowFor", "(I)I"⟩
abbrev cX7_bestRow : ByteArray := prog_9_method_77_code
def yX7_bestRow : MethodName := ⟨RX7, "bestRow", "(I)I"⟩
abbrev cX7_oddByReach : ByteArray := prog_9_method_78_code
def yX7_oddByReach : MethodName := ⟨RX7, "oddByReach", "(I)I"⟩
abbrev cX7_ifReach : ByteArray := prog_9_method_79_code
def yX7_ifReach : MethodName := ⟨RX7, "ifReach", "(I)I"⟩
abbrev cX7_share : ByteArray := prog_9_method_80_code
def yX7_share : MethodName := ⟨RX7, "share", "()D"⟩
abbrev cX7_oddShare : ByteArray := prog_9_method_81_code
def yX7_oddShare : MethodName := ⟨RX7, "oddShare", "()D"⟩
abbrev cX7_mix : ByteArray := prog_9_method_82_code
def yX7_mix : MethodName := ⟨RX7, "mix", "(J)V"⟩
abbrev cX7_mixRow : ByteArray := prog_9_method_83_code
def yX7_mixRow : MethodName := ⟨RX7, "mixRow", "(I)V"⟩
abbrev cX7_digest : ByteArray := prog_9_method_84_code
def yX7_digest : MethodName := ⟨RX7, "digest", "()J"⟩
def RJ11 : String := "java/lang/Character"
abbrev cJ11_isValidCodePoint_9a6ad : ByteArray := prog_10_method_11_code
def yJ11_isValidCodePoint_9a6ad : MethodName := ⟨RJ11, "isValidCodePoint", "(I)Z"⟩
abbrev cJ11_highSurrogate_5068e : ByteArray := prog_10_method_28_code
def yJ11_highSurrogate_5068e : MethodName := ⟨RJ11, "highSurrogate", "(I)C"⟩
abbrev cJ11_lowSurrogate_5068e : ByteArray := prog_10_method_29_code
def yJ11_lowSurrogate_5068e : MethodName := ⟨RJ11, "lowSurrogate", "(I)C"⟩
def RJxe99ae : String := "java/lang/Double"
abbrev cJxe99ae_isNaN_b9ae7 : ByteArray := prog_11_method_6_code
def yJxe99ae_isNaN_b9ae7 : MethodName := ⟨RJxe99ae, "isNaN", "(D)Z"⟩
abbrev cJxe99ae_doubleToLongBits_ccdee : ByteArray := prog_11_method_23_code
def yJxe99ae_doubleToLongBits_ccdee : MethodName := ⟨RJxe99ae, "doubleToLongBits", "(D)J"⟩
def RJ6 : String := "java/lang/Integer"
abbrev cJ6_bitCount_0f7a4 : ByteArray := prog_16_method_49_code
def yJ6_bitCount_0f7a4 : MethodName := ⟨RJ6, "bitCount", "(I)I"⟩
def RJ9 : String := "java/lang/Math"
abbrev cJ9_floorMod_7cf53 : ByteArray := prog_17_method_50_code
def yJ9_floorMod_7cf53 : MethodName := ⟨RJ9, "floorMod", "(II)I"⟩
abbrev cJ9_max_7cf53 : ByteArray := prog_17_method_65_code
def yJ9_max_7cf53 : MethodName := ⟨RJ9, "max", "(II)I"⟩
abbrev cJ9_min_7cf53 : ByteArray := prog_17_method_69_code
def yJ9_min_7cf53 : MethodName := ⟨RJ9, "min", "(II)I"⟩
def RJ0 : String := "java/lang/String"
abbrev cJ0_length_8abf5 : ByteArray := prog_19_method_54_code
def yJ0_length_8abf5 : MethodName := ⟨RJ0, "length", "()I"⟩
abbrev cJ0_charAt_5068e : ByteArray := prog_19_method_56_code
def yJ0_charAt_5068e : MethodName := ⟨RJ0, "charAt", "(I)C"⟩
abbrev cJ0_indexOf_0f7a4 : ByteArray := prog_19_method_79_code
def yJ0_indexOf_0f7a4 : MethodName := ⟨RJ0, "indexOf", "(I)I"⟩
abbrev cJ0_indexOf_7cf53 : ByteArray := prog_19_method_80_code
def yJ0_indexOf_7cf53 : MethodName := ⟨RJ0, "indexOf", "(II)I"⟩
abbrev cJ0_coder_7d493 : ByteArray := prog_19_method_152_code
def yJ0_coder_7d493 : MethodName := ⟨RJ0, "coder", "()B"⟩
abbrev cJ0_isLatin1_aae02 : ByteArray := prog_19_method_154_code
def yJ0_isLatin1_aae02 : MethodName := ⟨RJ0, "isLatin1", "()Z"⟩
abbrev cJ0_checkIndex_df160 : ByteArray := prog_19_method_155_code
def yJ0_checkIndex_df160 : MethodName := ⟨RJ0, "checkIndex", "(II)V"⟩
abbrev cJ0_checkBoundsBeginEnd_23922 : ByteArray := prog_19_method_158_code
def yJ0_checkBoundsBeginEnd_23922 : MethodName := ⟨RJ0, "checkBoundsBeginEnd", "(III)V"⟩
def RJ1 : String := "java/lang/StringLatin1"
abbrev cJ1_charAt_3b067 : ByteArray := prog_20_method_2_code
def yJ1_charAt_3b067 : MethodName := ⟨RJ1, "charAt", "([BI)C"⟩
abbrev cJ1_canEncode_9a6ad : ByteArray := prog_20_method_4_code
def yJ1_canEncode_9a6ad : MethodName := ⟨RJ1, "canEncode", "(I)Z"⟩
abbrev cJ1_indexOf_4cfef : ByteArray := prog_20_method_22_code
def yJ1_indexOf_4cfef : MethodName := ⟨RJ1, "indexOf", "([BIII)I"⟩
abbrev cJ1_indexOfChar_4cfef : ByteArray := prog_20_method_23_code
def yJ1_indexOfChar_4cfef : MethodName := ⟨RJ1, "indexOfChar", "([BIII)I"⟩
def RJ2 : String := "java/lang/StringUTF16"
abbrev cJ2_getChar_3b067 : ByteArray := prog_21_method_5_code
def yJ2_getChar_3b067 : MethodName := ⟨RJ2, "getChar", "([BI)C"⟩
abbrev cJ2_length_9d52b : ByteArray := prog_21_method_6_code
def yJ2_length_9d52b : MethodName := ⟨RJ2, "length", "([B)I"⟩
abbrev cJ2_indexOf_4cfef : ByteArray := prog_21_method_40_code
def yJ2_indexOf_4cfef : MethodName := ⟨RJ2, "indexOf", "([BIII)I"⟩
abbrev cJ2_indexOfChar_4cfef : ByteArray := prog_21_method_47_code
def yJ2_indexOfChar_4cfef : MethodName := ⟨RJ2, "indexOfChar", "([BIII)I"⟩
abbrev cJ2_indexOfCharUnsafe_4cfef : ByteArray := prog_21_method_48_code
def yJ2_indexOfCharUnsafe_4cfef : MethodName := ⟨RJ2, "indexOfCharUnsafe", "([BIII)I"⟩
abbrev cJ2_indexOfSupplementary_4cfef : ByteArray := prog_21_method_49_code
def yJ2_indexOfSupplementary_4cfef : MethodName := ⟨RJ2, "indexOfSupplementary", "([BIII)I"⟩
abbrev cJ2_charAt_3b067 : ByteArray := prog_21_method_83_code
def yJ2_charAt_3b067 : MethodName := ⟨RJ2, "charAt", "([BI)C"⟩
abbrev cJ2_checkIndex_2214a : ByteArray := prog_21_method_91_code
def yJ2_checkIndex_2214a : MethodName := ⟨RJ2, "checkIndex", "(I[B)V"⟩
abbrev cJ2_checkBoundsBeginEnd_d044e : ByteArray := prog_21_method_93_code
def yJ2_checkBoundsBeginEnd_d044e : MethodName := ⟨RJ2, "checkBoundsBeginEnd", "(II[B)V"⟩
def RJ10 : String := "java/lang/System"
def RJ3 : String := "jdk/internal/util/Preconditions"
abbrev cJ3_checkIndex_8e157 : ByteArray := prog_24_method_11_code
def yJ3_checkIndex_8e157 : MethodName := ⟨RJ3, "checkIndex", "(IILjava/util/function/BiFunction;)I"⟩
abbrev cJ3_checkFromToIndex_8c36e : ByteArray := prog_24_method_12_code
def yJ3_checkFromToIndex_8c36e : MethodName := ⟨RJ3, "checkFromToIndex", "(IIILjava/util/function/BiFunction;)I"⟩
def RL : String := "OddChoirLaw"
abbrev cL_join : ByteArray := method_3_code
def yL_join : MethodName := ⟨RL, "join", "(LOddChoir;III[J)I"⟩
abbrev cL_leave : ByteArray := method_4_code
def yL_leave : MethodName := ⟨RL, "leave", "(LOddChoir;II[J)I"⟩
abbrev cL_grow : ByteArray := method_5_code
def yL_grow : MethodName := ⟨RL, "grow", "(LOddChoir;III[J)I"⟩
abbrev cL_swap : ByteArray := method_6_code
def yL_swap : MethodName := ⟨RL, "swap", "(LOddChoir;IIII[J)I"⟩
abbrev cL_cross : ByteArray := method_7_code
def yL_cross : MethodName := ⟨RL, "cross", "(LOddChoir;III[J)I"⟩
abbrev cL_turn : ByteArray := method_8_code
def yL_turn : MethodName := ⟨RL, "turn", "(LOddChoir;I[J)I"⟩
abbrev cL_sort : ByteArray := method_9_code
def yL_sort : MethodName := ⟨RL, "sort", "(LOddChoir;II[J)I"⟩
abbrev cL_set : ByteArray := method_10_code
def yL_set : MethodName := ⟨RL, "set", "(LOddChoir;II[J)I"⟩
abbrev cL_append : ByteArray := method_11_code
def yL_append : MethodName := ⟨RL, "append", "(LOddChoir;I[J)I"⟩
abbrev cL_chant : ByteArray := method_12_code
def yL_chant : MethodName := ⟨RL, "chant", "(LOddChoir;[J)I"⟩
abbrev cL_written : ByteArray := method_13_code
def yL_written : MethodName := ⟨RL, "written", "(LOddChoir;II[J)I"⟩
abbrev cL_undo : ByteArray := method_14_code
def yL_undo : MethodName := ⟨RL, "undo", "(LOddChoir;[J)I"⟩
abbrev cL_restore : ByteArray := method_15_code
def yL_restore : MethodName := ⟨RL, "restore", "(LOddChoir;[J)I"⟩
abbrev cL_singer : ByteArray := method_16_code
def yL_singer : MethodName := ⟨RL, "singer", "(LOddChoir;III[J)I"⟩
abbrev cL_row : ByteArray := method_17_code
def yL_row : MethodName := ⟨RL, "row", "(LOddChoir;II[J)I"⟩
abbrev cL_find : ByteArray := method_18_code
def yL_find : MethodName := ⟨RL, "find", "(LOddChoir;I[J)I"⟩
abbrev cL_count : ByteArray := method_19_code
def yL_count : MethodName := ⟨RL, "count", "(LOddChoir;I[J)I"⟩
abbrev cL_ifSwapped : ByteArray := method_20_code
def yL_ifSwapped : MethodName := ⟨RL, "ifSwapped", "(LOddChoir;IIII[J)I"⟩
abbrev cL_bestSwap : ByteArray := method_21_code
def yL_bestSwap : MethodName := ⟨RL, "bestSwap", "(LOddChoir;I[J)I"⟩
abbrev cL_bestRow : ByteArray := method_22_code
def yL_bestRow : MethodName := ⟨RL, "bestRow", "(LOddChoir;I[J)I"⟩
abbrev cL_ifReach : ByteArray := method_23_code
def yL_ifReach : MethodName := ⟨RL, "ifReach", "(LOddChoir;I[J)I"⟩
abbrev cL_law : ByteArray := code
def yL_law : MethodName := ⟨RL, "law", "([I)Z"⟩
theorem dX0_init_0 : decode cX0_init 0 = .ok (.aload_n 0, 1) := by decide +kernel
theorem dX0_init_1 : decode cX0_init 1 = .ok (.invokespecial 3, 3) := by decide +kernel
theorem dX0_init_4 : decode cX0_init 4 = .ok (.aload_n 0, 1) := by decide +kernel
theorem dX0_init_5 : decode cX0_init 5 = .ok (.bipush 60, 2) := by decide +kernel
theorem dX0_init_7 : decode cX0_init 7 = .ok (.newarray .char, 2) := by decide +kernel
theorem dX0_init_9 : decode cX0_init 9 = .ok (.putfield 9, 3) := by decide +kernel
theorem dX0_init_12 : decode cX0_init 12 = .ok (.return_, 1) := by decide +kernel
theorem dX0_size_0 : decode cX0_size 0 = .ok (.aload_n 0, 1) := by decide +kernel
theorem dX0_size_1 : decode cX0_size 1 = .ok (.getfield 15, 3) := by decide +kernel
theorem dX0_size_4 : decode cX0_size 4 = .ok (.ireturn, 1) := by decide +kernel
theorem dX0_add_0 : decode cX0_add 0 = .ok (.aload_n 0, 1) := by decide +kernel
theorem dX0_add_1 : decode cX0_add 1 = .ok (.getfield 15, 3) := by decide +kernel
theorem dX0_add_4 : decode cX0_add 4 = .ok (.ifCond .lt 35, 3) := by decide +kernel
theorem dX0_add_7 : decode cX0_add 7 = .ok (.aload_n 0, 1) := by decide +kernel
theorem dX0_add_8 : decode cX0_add 8 = .ok (.getfield 15, 3) := by decide +kernel
theorem dX0_add_11 : decode cX0_add 11 = .ok (.aload_n 0, 1) := by decide +kernel
theorem dX0_add_12 : decode cX0_add 12 = .ok (.getfield 9, 3) := by decide +kernel
theorem dX0_add_15 : decode cX0_add 15 = .ok (.arraylength, 1) := by decide +kernel
theorem dX0_add_16 : decode cX0_add 16 = .ok (.if_icmp .ge 23, 3) := by decide +kernel
theorem dX0_add_19 : decode cX0_add 19 = .ok (.aload_n 0, 1) := by decide +kernel
theorem dX0_add_20 : decode cX0_add 20 = .ok (.getfield 9, 3) := by decide +kernel
theorem dX0_add_23 : decode cX0_add 23 = .ok (.aload_n 0, 1) := by decide +kernel
theorem dX0_add_24 : decode cX0_add 24 = .ok (.getfield 15, 3) := by decide +kernel
theorem dX0_add_27 : decode cX0_add 27 = .ok (.iload_n 1, 1) := by decide +kernel
theorem dX0_add_28 : decode cX0_add 28 = .ok (.castore, 1) := by decide +kernel
theorem dX0_add_29 : decode cX0_add 29 = .ok (.aload_n 0, 1) := by decide +kernel
theorem dX0_add_30 : decode cX0_add 30 = .ok (.dup, 1) := by decide +kernel
theorem dX0_add_31 : decode cX0_add 31 = .ok (.getfield 15, 3) := by decide +kernel
theorem dX0_add_34 : decode cX0_add 34 = .ok (.iconst 1, 1) := by decide +kernel
theorem dX0_add_35 : decode cX0_add 35 = .ok (.iadd, 1) := by decide +kernel
theorem dX0_add_36 : decode cX0_add 36 = .ok (.putfield 15, 3) := by decide +kernel
theorem dX0_add_39 : decode cX0_add 39 = .ok (.return_, 1) := by decide +kernel
theorem dX0_empty_0 : decode cX0_empty 0 = .ok (.aload_n 0, 1) := by decide +kernel
theorem dX0_empty_1 : decode cX0_empty 1 = .ok (.iconst 0, 1) := by decide +kernel
theorem dX0_empty_2 : decode cX0_empty 2 = .ok (.putfield 15, 3) := by decide +kernel
theorem dX0_empty_5 : decode cX0_empty 5 = .ok (.return_, 1) := by decide +kernel
theorem dX0_codeAt_0 : decode cX0_codeAt 0 = .ok (.iload_n 1, 1) := by decide +kernel
theorem dX0_codeAt_1 : decode cX0_codeAt 1 = .ok (.ifCond .lt 29, 3) := by decide +kernel
theorem dX0_codeAt_4 : decode cX0_codeAt 4 = .ok (.iload_n 1, 1) := by decide +kernel
theorem dX0_codeAt_5 : decode cX0_codeAt 5 = .ok (.aload_n 0, 1) := by decide +kernel
theorem dX0_codeAt_6 : decode cX0_codeAt 6 = .ok (.getfield 15, 3) := by decide +kernel
theorem dX0_codeAt_9 : decode cX0_codeAt 9 = .ok (.if_icmp .ge 21, 3) := by decide +kernel
theorem dX0_codeAt_12 : decode cX0_codeAt 12 = .ok (.iload_n 1, 1) := by decide +kernel
theorem dX0_codeAt_13 : decode cX0_codeAt 13 = .ok (.aload_n 0, 1) := by decide +kernel
theorem dX0_codeAt_14 : decode cX0_codeAt 14 = .ok (.getfield 9, 3) := by decide +kernel
theorem dX0_codeAt_17 : decode cX0_codeAt 17 = .ok (.arraylength, 1) := by decide +kernel
theorem dX0_codeAt_18 : decode cX0_codeAt 18 = .ok (.if_icmp .ge 12, 3) := by decide +kernel
theorem dX0_codeAt_21 : decode cX0_codeAt 21 = .ok (.aload_n 0, 1) := by decide +kernel
theorem dX0_codeAt_22 : decode cX0_codeAt 22 = .ok (.getfield 9, 3) := by decide +kernel
theorem dX0_codeAt_25 : decode cX0_codeAt 25 = .ok (.iload_n 1, 1) := by decide +kernel
theorem dX0_codeAt_26 : decode cX0_codeAt 26 = .ok (.caload, 1) := by decide +kernel
theorem dX0_codeAt_27 : decode cX0_codeAt 27 = .ok (.goto 4, 3) := by decide +kernel
theorem dX0_codeAt_30 : decode cX0_codeAt 30 = .ok (.iconst 0, 1) := by decide +kernel
theorem dX0_codeAt_31 : decode cX0_codeAt 31 = .ok (.ireturn, 1) := by decide +kernel
theorem dX0_digitAt_0 : decode cX0_digitAt 0 = .ok (.aload_n 0, 1) := by decide +kernel
theorem dX0_digitAt_1 : decode cX0_digitAt 1 = .ok (.iload_n 1, 1) := by decide +kernel
theorem dX0_digitAt_2 : decode cX0_digitAt 2 = .ok (.invokevirtual 19, 3) := by decide +kernel
theorem dX0_digitAt_5 : decode cX0_digitAt 5 = .ok (.bipush 48, 2) := by decide +kernel
theorem dX0_digitAt_7 : decode cX0_digitAt 7 = .ok (.isub, 1) := by decide +kernel
theorem dX0_digitAt_8 : decode cX0_digitAt 8 = .ok (.ireturn, 1) := by decide +kernel
theorem dX0_formAt_0 : decode cX0_formAt 0 = .ok (.aload_n 0, 1) := by decide +kernel
theorem dX0_formAt_1 : decode cX0_formAt 1 = .ok (.iload_n 1, 1) := by decide +kernel
theorem dX0_formAt_2 : decode cX0_formAt 2 = .ok (.invokevirtual 19, 3) := by decide +kernel
theorem dX0_formAt_5 : decode cX0_formAt 5 = .ok (.tableswitch 93 104 118 #[87, 93, 75, 93, 84, 93, 93, 93, 93, 93, 93, 78, 81, 93, 90], 75) := by decide +kernel
theorem dX0_formAt_80 : decode cX0_formAt 80 = .ok (.ldc 23, 2) := by decide +kernel
theorem dX0_formAt_82 : decode cX0_formAt 82 = .ok (.areturn, 1) := by decide +kernel
theorem dX0_formAt_83 : decode cX0_formAt 83 = .ok (.ldc 25, 2) := by decide +kernel
theorem dX0_formAt_85 : decode cX0_formAt 85 = .ok (.areturn, 1) := by decide +kernel
theorem dX0_formAt_86 : decode cX0_formAt 86 = .ok (.ldc 27, 2) := by decide +kernel
theorem dX0_formAt_88 : decode cX0_formAt 88 = .ok (.areturn, 1) := by decide +kernel
theorem dX0_formAt_89 : decode cX0_formAt 89 = .ok (.ldc 29, 2) := by decide +kernel
theorem dX0_formAt_91 : decode cX0_formAt 91 = .ok (.areturn, 1) := by decide +kernel
theorem dX0_formAt_92 : decode cX0_formAt 92 = .ok (.ldc 31, 2) := by decide +kernel
theorem dX0_formAt_94 : decode cX0_formAt 94 = .ok (.areturn, 1) := by decide +kernel
theorem dX0_formAt_95 : decode cX0_formAt 95 = .ok (.ldc 33, 2) := by decide +kernel
theorem dX0_formAt_97 : decode cX0_formAt 97 = .ok (.areturn, 1) := by decide +kernel
theorem dX0_formAt_98 : decode cX0_formAt 98 = .ok (.ldc 35, 2) := by decide +kernel
theorem dX0_formAt_100 : decode cX0_formAt 100 = .ok (.areturn, 1) := by decide +kernel
theorem dX0_endOfPart_0 : decode cX0_endOfPart 0 = .ok (.iload_n 1, 1) := by decide +kernel
theorem dX0_endOfPart_1 : decode cX0_endOfPart 1 = .ok (.aload_n 0, 1) := by decide +kernel
theorem dX0_endOfPart_2 : decode cX0_endOfPart 2 = .ok (.iload_n 1, 1) := by decide +kernel
theorem dX0_endOfPart_3 : decode cX0_endOfPart 3 = .ok (.invokevirtual 37, 3) := by decide +kernel
theorem dX0_endOfPart_6 : decode cX0_endOfPart 6 = .ok (.invokevirtual 41, 3) := by decide +kernel
theorem dX0_endOfPart_9 : decode cX0_endOfPart 9 = .ok (.iadd, 1) := by decide +kernel
theorem dX0_endOfPart_10 : decode cX0_endOfPart 10 = .ok (.ireturn, 1) := by decide +kernel
theorem dX0_firstMisfit_0 : decode cX0_firstMisfit 0 = .ok (.iconst 0, 1) := by decide +kernel
theorem dX0_firstMisfit_1 : decode cX0_firstMisfit 1 = .ok (.istore_n 1, 1) := by decide +kernel
theorem dX0_firstMisfit_2 : decode cX0_firstMisfit 2 = .ok (.iconst 0, 1) := by decide +kernel
theorem dX0_firstMisfit_3 : decode cX0_firstMisfit 3 = .ok (.istore_n 2, 1) := by decide +kernel
theorem dX0_firstMisfit_4 : decode cX0_firstMisfit 4 = .ok (.iload_n 2, 1) := by decide +kernel
theorem dX0_firstMisfit_5 : decode cX0_firstMisfit 5 = .ok (.aload_n 0, 1) := by decide +kernel
theorem dX0_firstMisfit_6 : decode cX0_firstMisfit 6 = .ok (.getfield 15, 3) := by decide +kernel
theorem dX0_firstMisfit_9 : decode cX0_firstMisfit 9 = .ok (.if_icmp .ge 60, 3) := by decide +kernel
theorem dX0_firstMisfit_12 : decode cX0_firstMisfit 12 = .ok (.iload_n 2, 1) := by decide +kernel
theorem dX0_firstMisfit_13 : decode cX0_firstMisfit 13 = .ok (.iload_n 1, 1) := by decide +kernel
theorem dX0_firstMisfit_14 : decode cX0_firstMisfit 14 = .ok (.if_icmp .le 31, 3) := by decide +kernel
theorem dX0_firstMisfit_17 : decode cX0_firstMisfit 17 = .ok (.iload_n 2, 1) := by decide +kernel
theorem dX0_firstMisfit_18 : decode cX0_firstMisfit 18 = .ok (.aload_n 0, 1) := by decide +kernel
theorem dX0_firstMisfit_19 : decode cX0_firstMisfit 19 = .ok (.iload_n 1, 1) := by decide +kernel
theorem dX0_firstMisfit_20 : decode cX0_firstMisfit 20 = .ok (.invokevirtual 46, 3) := by decide +kernel
theorem dX0_firstMisfit_23 : decode cX0_firstMisfit 23 = .ok (.if_icmp .ne 22, 3) := by decide +kernel
theorem dX0_firstMisfit_26 : decode cX0_firstMisfit 26 = .ok (.aload_n 0, 1) := by decide +kernel
theorem dX0_firstMisfit_27 : decode cX0_firstMisfit 27 = .ok (.iload_n 2, 1) := by decide +kernel
theorem dX0_firstMisfit_28 : decode cX0_firstMisfit 28 = .ok (.invokevirtual 19, 3) := by decide +kernel
theorem dX0_firstMisfit_31 : decode cX0_firstMisfit 31 = .ok (.bipush 59, 2) := by decide +kernel
theorem dX0_firstMisfit_33 : decode cX0_firstMisfit 33 = .ok (.if_icmp .eq 5, 3) := by decide +kernel
theorem dX0_firstMisfit_36 : decode cX0_firstMisfit 36 = .ok (.iload_n 2, 1) := by decide +kernel
theorem dX0_firstMisfit_37 : decode cX0_firstMisfit 37 = .ok (.ireturn, 1) := by decide +kernel
theorem dX0_firstMisfit_38 : decode cX0_firstMisfit 38 = .ok (.iload_n 2, 1) := by decide +kernel
theorem dX0_firstMisfit_39 : decode cX0_firstMisfit 39 = .ok (.iconst 1, 1) := by decide +kernel
theorem dX0_firstMisfit_40 : decode cX0_firstMisfit 40 = .ok (.iadd, 1) := by decide +kernel
theorem dX0_firstMisfit_41 : decode cX0_firstMisfit 41 = .ok (.istore_n 1, 1) := by decide +kernel
theorem dX0_firstMisfit_42 : decode cX0_firstMisfit 42 = .ok (.goto 21, 3) := by decide +kernel
theorem dX0_firstMisfit_45 : decode cX0_firstMisfit 45 = .ok (.aload_n 0, 1) := by decide +kernel
theorem dX0_firstMisfit_46 : decode cX0_firstMisfit 46 = .ok (.aload_n 0, 1) := by decide +kernel
theorem dX0_firstMisfit_47 : decode cX0_firstMisfit 47 = .ok (.iload_n 1, 1) := by decide +kernel
theorem dX0_firstMisfit_48 : decode cX0_firstMisfit 48 = .ok (.invokevirtual 37, 3) := by decide +kernel
theorem dX0_firstMisfit_51 : decode cX0_firstMisfit 51 = .ok (.iload_n 2, 1) := by decide +kernel
theorem dX0_firstMisfit_52 : decode cX0_firstMisfit 52 = .ok (.iload_n 1, 1) := by decide +kernel
theorem dX0_firstMisfit_53 : decode cX0_firstMisfit 53 = .ok (.isub, 1) := by decide +kernel
theorem dX0_firstMisfit_54 : decode cX0_firstMisfit 54 = .ok (.iload_n 2, 1) := by decide +kernel
theorem dX0_firstMisfit_55 : decode cX0_firstMisfit 55 = .ok (.invokevirtual 50, 3) := by decide +kernel
theorem dX0_firstMisfit_58 : decode cX0_firstMisfit 58 = .ok (.ifCond .ne 5, 3) := by decide +kernel
theorem dX0_firstMisfit_61 : decode cX0_firstMisfit 61 = .ok (.iload_n 2, 1) := by decide +kernel
theorem dX0_firstMisfit_62 : decode cX0_firstMisfit 62 = .ok (.ireturn, 1) := by decide +kernel
theorem dX0_firstMisfit_63 : decode cX0_firstMisfit 63 = .ok (.iinc 2 1, 3) := by decide +kernel
theorem dX0_firstMisfit_66 : decode cX0_firstMisfit 66 = .ok (.goto (-62), 3) := by decide +kernel
theorem dX0_firstMisfit_69 : decode cX0_firstMisfit 69 = .ok (.aload_n 0, 1) := by decide +kernel
theorem dX0_firstMisfit_70 : decode cX0_firstMisfit 70 = .ok (.getfield 15, 3) := by decide +kernel
theorem dX0_firstMisfit_73 : decode cX0_firstMisfit 73 = .ok (.ireturn, 1) := by decide +kernel
theorem dX0_isWhole_0 : decode cX0_isWhole 0 = .ok (.aload_n 0, 1) := by decide +kernel
theorem dX0_isWhole_1 : decode cX0_isWhole 1 = .ok (.invokevirtual 54, 3) := by decide +kernel
theorem dX0_isWhole_4 : decode cX0_isWhole 4 = .ok (.aload_n 0, 1) := by decide +kernel
theorem dX0_isWhole_5 : decode cX0_isWhole 5 = .ok (.getfield 15, 3) := by decide +kernel
theorem dX0_isWhole_8 : decode cX0_isWhole 8 = .ok (.if_icmp .ge 5, 3) := by decide +kernel
theorem dX0_isWhole_11 : decode cX0_isWhole 11 = .ok (.iconst 0, 1) := by decide +kernel
theorem dX0_isWhole_12 : decode cX0_isWhole 12 = .ok (.ireturn, 1) := by decide +kernel
theorem dX0_isWhole_13 : decode cX0_isWhole 13 = .ok (.iconst 0, 1) := by decide +kernel
theorem dX0_isWhole_14 : decode cX0_isWhole 14 = .ok (.istore_n 1, 1) := by decide +kernel
theorem dX0_isWhole_15 : decode cX0_isWhole 15 = .ok (.iconst 0, 1) := by decide +kernel
theorem dX0_isWhole_16 : decode cX0_isWhole 16 = .ok (.istore_n 2, 1) := by decide +kernel
theorem dX0_isWhole_17 : decode cX0_isWhole 17 = .ok (.iload_n 2, 1) := by decide +kernel
theorem dX0_isWhole_18 : decode cX0_isWhole 18 = .ok (.bipush 60, 2) := by decide +kernel
theorem dX0_isWhole_20 : decode cX0_isWhole 20 = .ok (.if_icmp .ge 37, 3) := by decide +kernel
theorem dX0_isWhole_23 : decode cX0_isWhole 23 = .ok (.iload_n 1, 1) := by decide +kernel
theorem dX0_isWhole_24 : decode cX0_isWhole 24 = .ok (.aload_n 0, 1) := by decide +kernel
theorem dX0_isWhole_25 : decode cX0_isWhole 25 = .ok (.getfield 15, 3) := by decide +kernel
theorem dX0_isWhole_28 : decode cX0_isWhole 28 = .ok (.if_icmp .ge 29, 3) := by decide +kernel
theorem dX0_isWhole_31 : decode cX0_isWhole 31 = .ok (.aload_n 0, 1) := by decide +kernel
theorem dX0_isWhole_32 : decode cX0_isWhole 32 = .ok (.iload_n 1, 1) := by decide +kernel
theorem dX0_isWhole_33 : decode cX0_isWhole 33 = .ok (.invokevirtual 46, 3) := by decide +kernel
theorem dX0_isWhole_36 : decode cX0_isWhole 36 = .ok (.istore_n 3, 1) := by decide +kernel
theorem dX0_isWhole_37 : decode cX0_isWhole 37 = .ok (.iload_n 3, 1) := by decide +kernel
theorem dX0_isWhole_38 : decode cX0_isWhole 38 = .ok (.aload_n 0, 1) := by decide +kernel
theorem dX0_isWhole_39 : decode cX0_isWhole 39 = .ok (.getfield 15, 3) := by decide +kernel
theorem dX0_isWhole_42 : decode cX0_isWhole 42 = .ok (.if_icmp .ne 5, 3) := by decide +kernel
theorem dX0_isWhole_45 : decode cX0_isWhole 45 = .ok (.iconst 1, 1) := by decide +kernel
theorem dX0_isWhole_46 : decode cX0_isWhole 46 = .ok (.ireturn, 1) := by decide +kernel
theorem dX0_isWhole_47 : decode cX0_isWhole 47 = .ok (.iload_n 3, 1) := by decide +kernel
theorem dX0_isWhole_48 : decode cX0_isWhole 48 = .ok (.iconst 1, 1) := by decide +kernel
theorem dX0_isWhole_49 : decode cX0_isWhole 49 = .ok (.iadd, 1) := by decide +kernel
theorem dX0_isWhole_50 : decode cX0_isWhole 50 = .ok (.istore_n 1, 1) := by decide +kernel
theorem dX0_isWhole_51 : decode cX0_isWhole 51 = .ok (.iinc 2 1, 3) := by decide +kernel
theorem dX0_isWhole_54 : decode cX0_isWhole 54 = .ok (.goto (-37), 3) := by decide +kernel
theorem dX0_isWhole_57 : decode cX0_isWhole 57 = .ok (.iconst 0, 1) := by decide +kernel
theorem dX0_isWhole_58 : decode cX0_isWhole 58 = .ok (.ireturn, 1) := by decide +kernel
theorem dX0_fits_0 : decode cX0_fits 0 = .ok (.iload_n 2, 1) := by decide +kernel
theorem dX0_fits_1 : decode cX0_fits 1 = .ok (.ifCond .lt 11, 3) := by decide +kernel
theorem dX0_fits_4 : decode cX0_fits 4 = .ok (.iload_n 2, 1) := by decide +kernel
theorem dX0_fits_5 : decode cX0_fits 5 = .ok (.aload_n 1, 1) := by decide +kernel
theorem dX0_fits_6 : decode cX0_fits 6 = .ok (.invokevirtual 41, 3) := by decide +kernel
theorem dX0_fits_9 : decode cX0_fits 9 = .ok (.if_icmp .lt 5, 3) := by decide +kernel
theorem dX0_fits_12 : decode cX0_fits 12 = .ok (.iconst 0, 1) := by decide +kernel
theorem dX0_fits_13 : decode cX0_fits 13 = .ok (.ireturn, 1) := by decide +kernel
theorem dX0_fits_14 : decode cX0_fits 14 = .ok (.aload_n 1, 1) := by decide +kernel
theorem dX0_fits_15 : decode cX0_fits 15 = .ok (.iload_n 2, 1) := by decide +kernel
theorem dX0_fits_16 : decode cX0_fits 16 = .ok (.invokevirtual 57, 3) := by decide +kernel
theorem dX0_fits_19 : decode cX0_fits 19 = .ok (.istore 4, 2) := by decide +kernel
theorem dX0_fits_21 : decode cX0_fits 21 = .ok (.aload_n 0, 1) := by decide +kernel
theorem dX0_fits_22 : decode cX0_fits 22 = .ok (.iload_n 3, 1) := by decide +kernel
theorem dX0_fits_23 : decode cX0_fits 23 = .ok (.invokevirtual 19, 3) := by decide +kernel
theorem dX0_fits_26 : decode cX0_fits 26 = .ok (.istore 5, 2) := by decide +kernel
theorem dX0_fits_28 : decode cX0_fits 28 = .ok (.iload 4, 2) := by decide +kernel
theorem dX0_fits_30 : decode cX0_fits 30 = .ok (.lookupswitch 154 #[(65, 78), (66, 88), (67, 115), (80, 68), (82, 58), (86, 138)], 58) := by decide +kernel
theorem dX0_fits_88 : decode cX0_fits 88 = .ok (.iload 5, 2) := by decide +kernel
theorem dX0_fits_90 : decode cX0_fits 90 = .ok (.bipush 48, 2) := by decide +kernel
theorem dX0_fits_92 : decode cX0_fits 92 = .ok (.bipush 51, 2) := by decide +kernel
theorem dX0_fits_94 : decode cX0_fits 94 = .ok (.invokestatic 60, 3) := by decide +kernel
theorem dX0_fits_97 : decode cX0_fits 97 = .ok (.ireturn, 1) := by decide +kernel
theorem dX0_fits_98 : decode cX0_fits 98 = .ok (.iload 5, 2) := by decide +kernel
theorem dX0_fits_100 : decode cX0_fits 100 = .ok (.bipush 48, 2) := by decide +kernel
theorem dX0_fits_102 : decode cX0_fits 102 = .ok (.bipush 53, 2) := by decide +kernel
theorem dX0_fits_104 : decode cX0_fits 104 = .ok (.invokestatic 60, 3) := by decide +kernel
theorem dX0_fits_107 : decode cX0_fits 107 = .ok (.ireturn, 1) := by decide +kernel
theorem dX0_fits_108 : decode cX0_fits 108 = .ok (.iload 5, 2) := by decide +kernel
theorem dX0_fits_110 : decode cX0_fits 110 = .ok (.bipush 49, 2) := by decide +kernel
theorem dX0_fits_112 : decode cX0_fits 112 = .ok (.bipush 50, 2) := by decide +kernel
theorem dX0_fits_114 : decode cX0_fits 114 = .ok (.invokestatic 60, 3) := by decide +kernel
theorem dX0_fits_117 : decode cX0_fits 117 = .ok (.ireturn, 1) := by decide +kernel
theorem dX0_fits_118 : decode cX0_fits 118 = .ok (.iload 5, 2) := by decide +kernel
theorem dX0_fits_120 : decode cX0_fits 120 = .ok (.bipush 48, 2) := by decide +kernel
theorem dX0_fits_122 : decode cX0_fits 122 = .ok (.aload_n 0, 1) := by decide +kernel
theorem dX0_fits_123 : decode cX0_fits 123 = .ok (.iload_n 3, 1) := by decide +kernel
theorem dX0_fits_124 : decode cX0_fits 124 = .ok (.iconst 1, 1) := by decide +kernel
theorem dX0_fits_125 : decode cX0_fits 125 = .ok (.isub, 1) := by decide +kernel
theorem dX0_fits_126 : decode cX0_fits 126 = .ok (.invokevirtual 19, 3) := by decide +kernel
theorem dX0_fits_129 : decode cX0_fits 129 = .ok (.bipush 50, 2) := by decide +kernel
theorem dX0_fits_131 : decode cX0_fits 131 = .ok (.if_icmp .ne 8, 3) := by decide +kernel
theorem dX0_fits_134 : decode cX0_fits 134 = .ok (.bipush 50, 2) := by decide +kernel
theorem dX0_fits_136 : decode cX0_fits 136 = .ok (.goto 5, 3) := by decide +kernel
theorem dX0_fits_139 : decode cX0_fits 139 = .ok (.bipush 57, 2) := by decide +kernel
theorem dX0_fits_141 : decode cX0_fits 141 = .ok (.invokestatic 60, 3) := by decide +kernel
theorem dX0_fits_144 : decode cX0_fits 144 = .ok (.ireturn, 1) := by decide +kernel
theorem dX0_fits_145 : decode cX0_fits 145 = .ok (.iload 5, 2) := by decide +kernel
theorem dX0_fits_147 : decode cX0_fits 147 = .ok (.bipush 48, 2) := by decide +kernel
theorem dX0_fits_149 : decode cX0_fits 149 = .ok (.aload_n 0, 1) := by decide +kernel
theorem dX0_fits_150 : decode cX0_fits 150 = .ok (.iload_n 3, 1) := by decide +kernel
theorem dX0_fits_151 : decode cX0_fits 151 = .ok (.invokevirtual 64, 3) := by decide +kernel
theorem dX0_fits_154 : decode cX0_fits 154 = .ok (.ifCond .eq 8, 3) := by decide +kernel
theorem dX0_fits_157 : decode cX0_fits 157 = .ok (.bipush 48, 2) := by decide +kernel
theorem dX0_fits_159 : decode cX0_fits 159 = .ok (.goto 5, 3) := by decide +kernel
theorem dX0_fits_162 : decode cX0_fits 162 = .ok (.bipush 57, 2) := by decide +kernel
theorem dX0_fits_164 : decode cX0_fits 164 = .ok (.invokestatic 60, 3) := by decide +kernel
theorem dX0_fits_167 : decode cX0_fits 167 = .ok (.ireturn, 1) := by decide +kernel
theorem dX0_fits_168 : decode cX0_fits 168 = .ok (.ldc 68, 2) := by decide +kernel
theorem dX0_fits_170 : decode cX0_fits 170 = .ok (.iload 5, 2) := by decide +kernel
theorem dX0_fits_172 : decode cX0_fits 172 = .ok (.invokevirtual 70, 3) := by decide +kernel
theorem dX0_fits_175 : decode cX0_fits 175 = .ok (.ifCond .lt 7, 3) := by decide +kernel
theorem dX0_fits_178 : decode cX0_fits 178 = .ok (.iconst 1, 1) := by decide +kernel
theorem dX0_fits_179 : decode cX0_fits 179 = .ok (.goto 4, 3) := by decide +kernel
theorem dX0_fits_182 : decode cX0_fits 182 = .ok (.iconst 0, 1) := by decide +kernel
theorem dX0_fits_183 : decode cX0_fits 183 = .ok (.ireturn, 1) := by decide +kernel
theorem dX0_fits_184 : decode cX0_fits 184 = .ok (.iload 5, 2) := by decide +kernel
theorem dX0_fits_186 : decode cX0_fits 186 = .ok (.iload 4, 2) := by decide +kernel
theorem dX0_fits_188 : decode cX0_fits 188 = .ok (.if_icmp .ne 7, 3) := by decide +kernel
theorem dX0_fits_191 : decode cX0_fits 191 = .ok (.iconst 1, 1) := by decide +kernel
theorem dX0_fits_192 : decode cX0_fits 192 = .ok (.goto 4, 3) := by decide +kernel
theorem dX0_fits_195 : decode cX0_fits 195 = .ok (.iconst 0, 1) := by decide +kernel
theorem dX0_fits_196 : decode cX0_fits 196 = .ok (.ireturn, 1) := by decide +kernel
theorem dX0_isTopHeight_0 : decode cX0_isTopHeight 0 = .ok (.aload_n 0, 1) := by decide +kernel
theorem dX0_isTopHeight_1 : decode cX0_isTopHeight 1 = .ok (.iload_n 1, 1) := by decide +kernel
theorem dX0_isTopHeight_2 : decode cX0_isTopHeight 2 = .ok (.iconst 2, 1) := by decide +kernel
theorem dX0_isTopHeight_3 : decode cX0_isTopHeight 3 = .ok (.isub, 1) := by decide +kernel
theorem dX0_isTopHeight_4 : decode cX0_isTopHeight 4 = .ok (.invokevirtual 19, 3) := by decide +kernel
theorem dX0_isTopHeight_7 : decode cX0_isTopHeight 7 = .ok (.bipush 50, 2) := by decide +kernel
theorem dX0_isTopHeight_9 : decode cX0_isTopHeight 9 = .ok (.if_icmp .ne 19, 3) := by decide +kernel
theorem dX0_isTopHeight_12 : decode cX0_isTopHeight 12 = .ok (.aload_n 0, 1) := by decide +kernel
theorem dX0_isTopHeight_13 : decode cX0_isTopHeight 13 = .ok (.iload_n 1, 1) := by decide +kernel
theorem dX0_isTopHeight_14 : decode cX0_isTopHeight 14 = .ok (.iconst 1, 1) := by decide +kernel
theorem dX0_isTopHeight_15 : decode cX0_isTopHeight 15 = .ok (.isub, 1) := by decide +kernel
theorem dX0_isTopHeight_16 : decode cX0_isTopHeight 16 = .ok (.invokevirtual 19, 3) := by decide +kernel
theorem dX0_isTopHeight_19 : decode cX0_isTopHeight 19 = .ok (.bipush 50, 2) := by decide +kernel
theorem dX0_isTopHeight_21 : decode cX0_isTopHeight 21 = .ok (.if_icmp .ne 7, 3) := by decide +kernel
theorem dX0_isTopHeight_24 : decode cX0_isTopHeight 24 = .ok (.iconst 1, 1) := by decide +kernel
theorem dX0_isTopHeight_25 : decode cX0_isTopHeight 25 = .ok (.goto 4, 3) := by decide +kernel
theorem dX0_isTopHeight_28 : decode cX0_isTopHeight 28 = .ok (.iconst 0, 1) := by decide +kernel
theorem dX0_isTopHeight_29 : decode cX0_isTopHeight 29 = .ok (.ireturn, 1) := by decide +kernel
theorem dX1_init_0 : decode cX1_init 0 = .ok (.aload_n 0, 1) := by decide +kernel
theorem dX1_init_1 : decode cX1_init 1 = .ok (.invokespecial 3, 3) := by decide +kernel
theorem dX1_init_4 : decode cX1_init 4 = .ok (.aload_n 0, 1) := by decide +kernel
theorem dX1_init_5 : decode cX1_init 5 = .ok (.iconst 4, 1) := by decide +kernel
theorem dX1_init_6 : decode cX1_init 6 = .ok (.newarray .int, 2) := by decide +kernel
theorem dX1_init_8 : decode cX1_init 8 = .ok (.putfield 9, 3) := by decide +kernel
theorem dX1_init_11 : decode cX1_init 11 = .ok (.aload_n 0, 1) := by decide +kernel
theorem dX1_init_12 : decode cX1_init 12 = .ok (.bipush 24, 2) := by decide +kernel
theorem dX1_init_14 : decode cX1_init 14 = .ok (.newarray .int, 2) := by decide +kernel
theorem dX1_init_16 : decode cX1_init 16 = .ok (.putfield 15, 3) := by decide +kernel
theorem dX1_init_19 : decode cX1_init 19 = .ok (.aload_n 0, 1) := by decide +kernel
theorem dX1_init_20 : decode cX1_init 20 = .ok (.bipush 24, 2) := by decide +kernel
theorem dX1_init_22 : decode cX1_init 22 = .ok (.newarray .int, 2) := by decide +kernel
theorem dX1_init_24 : decode cX1_init 24 = .ok (.putfield 18, 3) := by decide +kernel
theorem dX1_init_27 : decode cX1_init 27 = .ok (.aload_n 0, 1) := by decide +kernel
theorem dX1_init_28 : decode cX1_init 28 = .ok (.bipush 24, 2) := by decide +kernel
theorem dX1_init_30 : decode cX1_init 30 = .ok (.newarray .int, 2) := by decide +kernel
theorem dX1_init_32 : decode cX1_init 32 = .ok (.putfield 21, 3) := by decide +kernel
theorem dX1_init_35 : decode cX1_init 35 = .ok (.aload_n 0, 1) := by decide +kernel
theorem dX1_init_36 : decode cX1_init 36 = .ok (.bipush 6, 2) := by decide +kernel
theorem dX1_init_38 : decode cX1_init 38 = .ok (.putfield 24, 3) := by decide +kernel
theorem dX1_init_41 : decode cX1_init 41 = .ok (.aload_n 0, 1) := by decide +kernel
theorem dX1_init_42 : decode cX1_init 42 = .ok (.iconst 1, 1) := by decide +kernel
theorem dX1_init_43 : decode cX1_init 43 = .ok (.putfield 28, 3) := by decide +kernel
theorem dX1_init_46 : decode cX1_init 46 = .ok (.return_, 1) := by decide +kernel
theorem dX1_become_0 : decode cX1_become 0 = .ok (.aload_n 1, 1) := by decide +kernel
theorem dX1_become_1 : decode cX1_become 1 = .ok (.ifnonnull 4, 3) := by decide +kernel
theorem dX1_become_4 : decode cX1_become 4 = .ok (.return_, 1) := by decide +kernel
theorem dX1_become_5 : decode cX1_become 5 = .ok (.aload_n 1, 1) := by decide +kernel
theorem dX1_become_6 : decode cX1_become 6 = .ok (.getfield 9, 3) := by decide +kernel
theorem dX1_become_9 : decode cX1_become 9 = .ok (.aload_n 0, 1) := by decide +kernel
theorem dX1_become_10 : decode cX1_become 10 = .ok (.getfield 9, 3) := by decide +kernel
theorem dX1_become_13 : decode cX1_become 13 = .ok (.invokestatic 31, 3) := by decide +kernel
theorem dX1_become_16 : decode cX1_become 16 = .ok (.aload_n 1, 1) := by decide +kernel
theorem dX1_become_17 : decode cX1_become 17 = .ok (.getfield 15, 3) := by decide +kernel
theorem dX1_become_20 : decode cX1_become 20 = .ok (.aload_n 0, 1) := by decide +kernel
theorem dX1_become_21 : decode cX1_become 21 = .ok (.getfield 15, 3) := by decide +kernel
theorem dX1_become_24 : decode cX1_become 24 = .ok (.invokestatic 31, 3) := by decide +kernel
theorem dX1_become_27 : decode cX1_become 27 = .ok (.aload_n 1, 1) := by decide +kernel
theorem dX1_become_28 : decode cX1_become 28 = .ok (.getfield 18, 3) := by decide +kernel
theorem dX1_become_31 : decode cX1_become 31 = .ok (.aload_n 0, 1) := by decide +kernel
theorem dX1_become_32 : decode cX1_become 32 = .ok (.getfield 18, 3) := by decide +kernel
theorem dX1_become_35 : decode cX1_become 35 = .ok (.invokestatic 31, 3) := by decide +kernel
theorem dX1_become_38 : decode cX1_become 38 = .ok (.aload_n 1, 1) := by decide +kernel
theorem dX1_become_39 : decode cX1_become 39 = .ok (.getfield 21, 3) := by decide +kernel
theorem dX1_become_42 : decode cX1_become 42 = .ok (.aload_n 0, 1) := by decide +kernel
theorem dX1_become_43 : decode cX1_become 43 = .ok (.getfield 21, 3) := by decide +kernel
theorem dX1_become_46 : decode cX1_become 46 = .ok (.invokestatic 31, 3) := by decide +kernel
theorem dX1_become_49 : decode cX1_become 49 = .ok (.aload_n 0, 1) := by decide +kernel
theorem dX1_become_50 : decode cX1_become 50 = .ok (.aload_n 1, 1) := by decide +kernel
theorem dX1_become_51 : decode cX1_become 51 = .ok (.getfield 24, 3) := by decide +kernel
theorem dX1_become_54 : decode cX1_become 54 = .ok (.putfield 24, 3) := by decide +kernel
theorem dX1_become_57 : decode cX1_become 57 = .ok (.aload_n 0, 1) := by decide +kernel
theorem dX1_become_58 : decode cX1_become 58 = .ok (.aload_n 1, 1) := by decide +kernel
theorem dX1_become_59 : decode cX1_become 59 = .ok (.getfield 28, 3) := by decide +kernel
theorem dX1_become_62 : decode cX1_become 62 = .ok (.putfield 28, 3) := by decide +kernel
theorem dX1_become_65 : decode cX1_become 65 = .ok (.aload_n 0, 1) := by decide +kernel
theorem dX1_become_66 : decode cX1_become 66 = .ok (.aload_n 1, 1) := by decide +kernel
theorem dX1_become_67 : decode cX1_become 67 = .ok (.getfield 35, 3) := by decide +kernel
theorem dX1_become_70 : decode cX1_become 70 = .ok (.putfield 35, 3) := by decide +kernel
theorem dX1_become_73 : decode cX1_become 73 = .ok (.aload_n 0, 1) := by decide +kernel
theorem dX1_become_74 : decode cX1_become 74 = .ok (.aload_n 1, 1) := by decide +kernel
theorem dX1_become_75 : decode cX1_become 75 = .ok (.getfield 38, 3) := by decide +kernel
theorem dX1_become_78 : decode cX1_become 78 = .ok (.putfield 38, 3) := by decide +kernel
theorem dX1_become_81 : decode cX1_become 81 = .ok (.aload_n 0, 1) := by decide +kernel
theorem dX1_become_82 : decode cX1_become 82 = .ok (.aload_n 1, 1) := by decide +kernel
theorem dX1_become_83 : decode cX1_become 83 = .ok (.getfield 41, 3) := by decide +kernel
theorem dX1_become_86 : decode cX1_become 86 = .ok (.putfield 41, 3) := by decide +kernel
theorem dX1_become_89 : decode cX1_become 89 = .ok (.return_, 1) := by decide +kernel
theorem dX1_copyCells_0 : decode cX1_copyCells 0 = .ok (.aload_n 0, 1) := by decide +kernel
theorem dX1_copyCells_1 : decode cX1_copyCells 1 = .ok (.iconst 0, 1) := by decide +kernel
theorem dX1_copyCells_2 : decode cX1_copyCells 2 = .ok (.aload_n 1, 1) := by decide +kernel
theorem dX1_copyCells_3 : decode cX1_copyCells 3 = .ok (.iconst 0, 1) := by decide +kernel
theorem dX1_copyCells_4 : decode cX1_copyCells 4 = .ok (.aload_n 0, 1) := by decide +kernel
theorem dX1_copyCells_5 : decode cX1_copyCells 5 = .ok (.arraylength, 1) := by decide +kernel
theorem dX1_copyCells_6 : decode cX1_copyCells 6 = .ok (.aload_n 1, 1) := by decide +kernel
theorem dX1_copyCells_7 : decode cX1_copyCells 7 = .ok (.arraylength, 1) := by decide +kernel
theorem dX1_copyCells_8 : decode cX1_copyCells 8 = .ok (.invokestatic 44, 3) := by decide +kernel
theorem dX1_copyCells_11 : decode cX1_copyCells 11 = .ok (.invokestatic 50, 3) := by decide +kernel
theorem dX1_copyCells_14 : decode cX1_copyCells 14 = .ok (.return_, 1) := by decide +kernel
theorem dX1_settingAt_0 : decode cX1_settingAt 0 = .ok (.iload_n 1, 1) := by decide +kernel
theorem dX1_settingAt_1 : decode cX1_settingAt 1 = .ok (.ifCond .ne 10, 3) := by decide +kernel
theorem dX1_settingAt_4 : decode cX1_settingAt 4 = .ok (.aload_n 0, 1) := by decide +kernel
theorem dX1_settingAt_5 : decode cX1_settingAt 5 = .ok (.getfield 24, 3) := by decide +kernel
theorem dX1_settingAt_8 : decode cX1_settingAt 8 = .ok (.goto 7, 3) := by decide +kernel
theorem dX1_settingAt_11 : decode cX1_settingAt 11 = .ok (.aload_n 0, 1) := by decide +kernel
theorem dX1_settingAt_12 : decode cX1_settingAt 12 = .ok (.getfield 28, 3) := by decide +kernel
theorem dX1_settingAt_15 : decode cX1_settingAt 15 = .ok (.ireturn, 1) := by decide +kernel
theorem dX1_changeSetting_0 : decode cX1_changeSetting 0 = .ok (.iload_n 1, 1) := by decide +kernel
theorem dX1_changeSetting_1 : decode cX1_changeSetting 1 = .ok (.ifCond .ne 11, 3) := by decide +kernel
theorem dX1_changeSetting_4 : decode cX1_changeSetting 4 = .ok (.aload_n 0, 1) := by decide +kernel
theorem dX1_changeSetting_5 : decode cX1_changeSetting 5 = .ok (.iload_n 2, 1) := by decide +kernel
theorem dX1_changeSetting_6 : decode cX1_changeSetting 6 = .ok (.putfield 24, 3) := by decide +kernel
theorem dX1_changeSetting_9 : decode cX1_changeSetting 9 = .ok (.goto 8, 3) := by decide +kernel
theorem dX1_changeSetting_12 : decode cX1_changeSetting 12 = .ok (.aload_n 0, 1) := by decide +kernel
theorem dX1_changeSetting_13 : decode cX1_changeSetting 13 = .ok (.iload_n 2, 1) := by decide +kernel
theorem dX1_changeSetting_14 : decode cX1_changeSetting 14 = .ok (.putfield 28, 3) := by decide +kernel
theorem dX1_changeSetting_17 : decode cX1_changeSetting 17 = .ok (.return_, 1) := by decide +kernel
theorem dX1_sizeOf_0 : decode cX1_sizeOf 0 = .ok (.iload_n 1, 1) := by decide +kernel
theorem dX1_sizeOf_1 : decode cX1_sizeOf 1 = .ok (.ifCond .lt 21, 3) := by decide +kernel
theorem dX1_sizeOf_4 : decode cX1_sizeOf 4 = .ok (.iload_n 1, 1) := by decide +kernel
theorem dX1_sizeOf_5 : decode cX1_sizeOf 5 = .ok (.aload_n 0, 1) := by decide +kernel
theorem dX1_sizeOf_6 : decode cX1_sizeOf 6 = .ok (.getfield 9, 3) := by decide +kernel
theorem dX1_sizeOf_9 : decode cX1_sizeOf 9 = .ok (.arraylength, 1) := by decide +kernel
theorem dX1_sizeOf_10 : decode cX1_sizeOf 10 = .ok (.if_icmp .ge 12, 3) := by decide +kernel
theorem dX1_sizeOf_13 : decode cX1_sizeOf 13 = .ok (.aload_n 0, 1) := by decide +kernel
theorem dX1_sizeOf_14 : decode cX1_sizeOf 14 = .ok (.getfield 9, 3) := by decide +kernel
theorem dX1_sizeOf_17 : decode cX1_sizeOf 17 = .ok (.iload_n 1, 1) := by decide +kernel
theorem dX1_sizeOf_18 : decode cX1_sizeOf 18 = .ok (.iaload, 1) := by decide +kernel
theorem dX1_sizeOf_19 : decode cX1_sizeOf 19 = .ok (.goto 4, 3) := by decide +kernel
theorem dX1_sizeOf_22 : decode cX1_sizeOf 22 = .ok (.iconst 0, 1) := by decide +kernel
theorem dX1_sizeOf_23 : decode cX1_sizeOf 23 = .ok (.ireturn, 1) := by decide +kernel
theorem dX1_sizeOfAll_0 : decode cX1_sizeOfAll 0 = .ok (.iconst 0, 1) := by decide +kernel
theorem dX1_sizeOfAll_1 : decode cX1_sizeOfAll 1 = .ok (.istore_n 1, 1) := by decide +kernel
theorem dX1_sizeOfAll_2 : decode cX1_sizeOfAll 2 = .ok (.iconst 0, 1) := by decide +kernel
theorem dX1_sizeOfAll_3 : decode cX1_sizeOfAll 3 = .ok (.istore_n 2, 1) := by decide +kernel
theorem dX1_sizeOfAll_4 : decode cX1_sizeOfAll 4 = .ok (.iload_n 2, 1) := by decide +kernel
theorem dX1_sizeOfAll_5 : decode cX1_sizeOfAll 5 = .ok (.iconst 4, 1) := by decide +kernel
theorem dX1_sizeOfAll_6 : decode cX1_sizeOfAll 6 = .ok (.if_icmp .ge 17, 3) := by decide +kernel
theorem dX1_sizeOfAll_9 : decode cX1_sizeOfAll 9 = .ok (.iload_n 1, 1) := by decide +kernel
theorem dX1_sizeOfAll_10 : decode cX1_sizeOfAll 10 = .ok (.aload_n 0, 1) := by decide +kernel
theorem dX1_sizeOfAll_11 : decode cX1_sizeOfAll 11 = .ok (.iload_n 2, 1) := by decide +kernel
theorem dX1_sizeOfAll_12 : decode cX1_sizeOfAll 12 = .ok (.invokevirtual 56, 3) := by decide +kernel
theorem dX1_sizeOfAll_15 : decode cX1_sizeOfAll 15 = .ok (.iadd, 1) := by decide +kernel
theorem dX1_sizeOfAll_16 : decode cX1_sizeOfAll 16 = .ok (.istore_n 1, 1) := by decide +kernel
theorem dX1_sizeOfAll_17 : decode cX1_sizeOfAll 17 = .ok (.iinc 2 1, 3) := by decide +kernel
theorem dX1_sizeOfAll_20 : decode cX1_sizeOfAll 20 = .ok (.goto (-16), 3) := by decide +kernel
theorem dX1_sizeOfAll_23 : decode cX1_sizeOfAll 23 = .ok (.iload_n 1, 1) := by decide +kernel
theorem dX1_sizeOfAll_24 : decode cX1_sizeOfAll 24 = .ok (.ireturn, 1) := by decide +kernel
theorem dX1_changeSize_0 : decode cX1_changeSize 0 = .ok (.aload_n 0, 1) := by decide +kernel
theorem dX1_changeSize_1 : decode cX1_changeSize 1 = .ok (.iload_n 1, 1) := by decide +kernel
theorem dX1_changeSize_2 : decode cX1_changeSize 2 = .ok (.invokevirtual 56, 3) := by decide +kernel
theorem dX1_changeSize_5 : decode cX1_changeSize 5 = .ok (.iload_n 2, 1) := by decide +kernel
theorem dX1_changeSize_6 : decode cX1_changeSize 6 = .ok (.iadd, 1) := by decide +kernel
theorem dX1_changeSize_7 : decode cX1_changeSize 7 = .ok (.istore_n 3, 1) := by decide +kernel
theorem dX1_changeSize_8 : decode cX1_changeSize 8 = .ok (.iload_n 1, 1) := by decide +kernel
theorem dX1_changeSize_9 : decode cX1_changeSize 9 = .ok (.ifCond .lt 29, 3) := by decide +kernel
theorem dX1_changeSize_12 : decode cX1_changeSize 12 = .ok (.iload_n 1, 1) := by decide +kernel
theorem dX1_changeSize_13 : decode cX1_changeSize 13 = .ok (.aload_n 0, 1) := by decide +kernel
theorem dX1_changeSize_14 : decode cX1_changeSize 14 = .ok (.getfield 9, 3) := by decide +kernel
theorem dX1_changeSize_17 : decode cX1_changeSize 17 = .ok (.arraylength, 1) := by decide +kernel
theorem dX1_changeSize_18 : decode cX1_changeSize 18 = .ok (.if_icmp .ge 20, 3) := by decide +kernel
theorem dX1_changeSize_21 : decode cX1_changeSize 21 = .ok (.iload_n 3, 1) := by decide +kernel
theorem dX1_changeSize_22 : decode cX1_changeSize 22 = .ok (.ifCond .lt 16, 3) := by decide +kernel
theorem dX1_changeSize_25 : decode cX1_changeSize 25 = .ok (.iload_n 3, 1) := by decide +kernel
theorem dX1_changeSize_26 : decode cX1_changeSize 26 = .ok (.bipush 6, 2) := by decide +kernel
theorem dX1_changeSize_28 : decode cX1_changeSize 28 = .ok (.if_icmp .gt 10, 3) := by decide +kernel
theorem dX1_changeSize_31 : decode cX1_changeSize 31 = .ok (.aload_n 0, 1) := by decide +kernel
theorem dX1_changeSize_32 : decode cX1_changeSize 32 = .ok (.getfield 9, 3) := by decide +kernel
theorem dX1_changeSize_35 : decode cX1_changeSize 35 = .ok (.iload_n 1, 1) := by decide +kernel
theorem dX1_changeSize_36 : decode cX1_changeSize 36 = .ok (.iload_n 3, 1) := by decide +kernel
theorem dX1_changeSize_37 : decode cX1_changeSize 37 = .ok (.iastore, 1) := by decide +kernel
theorem dX1_changeSize_38 : decode cX1_changeSize 38 = .ok (.return_, 1) := by decide +kernel
theorem dX1_isTaken_0 : decode cX1_isTaken 0 = .ok (.iload_n 2, 1) := by decide +kernel
theorem dX1_isTaken_1 : decode cX1_isTaken 1 = .ok (.ifCond .lt 16, 3) := by decide +kernel
theorem dX1_isTaken_4 : decode cX1_isTaken 4 = .ok (.iload_n 2, 1) := by decide +kernel
theorem dX1_isTaken_5 : decode cX1_isTaken 5 = .ok (.aload_n 0, 1) := by decide +kernel
theorem dX1_isTaken_6 : decode cX1_isTaken 6 = .ok (.iload_n 1, 1) := by decide +kernel
theorem dX1_isTaken_7 : decode cX1_isTaken 7 = .ok (.invokevirtual 56, 3) := by decide +kernel
theorem dX1_isTaken_10 : decode cX1_isTaken 10 = .ok (.if_icmp .ge 7, 3) := by decide +kernel
theorem dX1_isTaken_13 : decode cX1_isTaken 13 = .ok (.iconst 1, 1) := by decide +kernel
theorem dX1_isTaken_14 : decode cX1_isTaken 14 = .ok (.goto 4, 3) := by decide +kernel
theorem dX1_isTaken_17 : decode cX1_isTaken 17 = .ok (.iconst 0, 1) := by decide +kernel
theorem dX1_isTaken_18 : decode cX1_isTaken 18 = .ok (.ireturn, 1) := by decide +kernel
theorem dX1_hasRoomFor_0 : decode cX1_hasRoomFor 0 = .ok (.aload_n 0, 1) := by decide +kernel
theorem dX1_hasRoomFor_1 : decode cX1_hasRoomFor 1 = .ok (.iload_n 1, 1) := by decide +kernel
theorem dX1_hasRoomFor_2 : decode cX1_hasRoomFor 2 = .ok (.invokevirtual 56, 3) := by decide +kernel
theorem dX1_hasRoomFor_5 : decode cX1_hasRoomFor 5 = .ok (.bipush 6, 2) := by decide +kernel
theorem dX1_hasRoomFor_7 : decode cX1_hasRoomFor 7 = .ok (.if_icmp .ge 17, 3) := by decide +kernel
theorem dX1_hasRoomFor_10 : decode cX1_hasRoomFor 10 = .ok (.aload_n 0, 1) := by decide +kernel
theorem dX1_hasRoomFor_11 : decode cX1_hasRoomFor 11 = .ok (.getfield 35, 3) := by decide +kernel
theorem dX1_hasRoomFor_14 : decode cX1_hasRoomFor 14 = .ok (.sipush 999, 3) := by decide +kernel
theorem dX1_hasRoomFor_17 : decode cX1_hasRoomFor 17 = .ok (.if_icmp .ge 7, 3) := by decide +kernel
theorem dX1_hasRoomFor_20 : decode cX1_hasRoomFor 20 = .ok (.iconst 1, 1) := by decide +kernel
theorem dX1_hasRoomFor_21 : decode cX1_hasRoomFor 21 = .ok (.goto 4, 3) := by decide +kernel
theorem dX1_hasRoomFor_24 : decode cX1_hasRoomFor 24 = .ok (.iconst 0, 1) := by decide +kernel
theorem dX1_hasRoomFor_25 : decode cX1_hasRoomFor 25 = .ok (.ireturn, 1) := by decide +kernel
theorem dX1_spotAt_0 : decode cX1_spotAt 0 = .ok (.iload_n 0, 1) := by decide +kernel
theorem dX1_spotAt_1 : decode cX1_spotAt 1 = .ok (.ifCond .lt 27, 3) := by decide +kernel
theorem dX1_spotAt_4 : decode cX1_spotAt 4 = .ok (.iload_n 0, 1) := by decide +kernel
theorem dX1_spotAt_5 : decode cX1_spotAt 5 = .ok (.iconst 4, 1) := by decide +kernel
theorem dX1_spotAt_6 : decode cX1_spotAt 6 = .ok (.if_icmp .ge 22, 3) := by decide +kernel
theorem dX1_spotAt_9 : decode cX1_spotAt 9 = .ok (.iload_n 1, 1) := by decide +kernel
theorem dX1_spotAt_10 : decode cX1_spotAt 10 = .ok (.ifCond .lt 18, 3) := by decide +kernel
theorem dX1_spotAt_13 : decode cX1_spotAt 13 = .ok (.iload_n 1, 1) := by decide +kernel
theorem dX1_spotAt_14 : decode cX1_spotAt 14 = .ok (.bipush 6, 2) := by decide +kernel
theorem dX1_spotAt_16 : decode cX1_spotAt 16 = .ok (.if_icmp .ge 12, 3) := by decide +kernel
theorem dX1_spotAt_19 : decode cX1_spotAt 19 = .ok (.bipush 6, 2) := by decide +kernel
theorem dX1_spotAt_21 : decode cX1_spotAt 21 = .ok (.iload_n 0, 1) := by decide +kernel
theorem dX1_spotAt_22 : decode cX1_spotAt 22 = .ok (.imul, 1) := by decide +kernel
theorem dX1_spotAt_23 : decode cX1_spotAt 23 = .ok (.iload_n 1, 1) := by decide +kernel
theorem dX1_spotAt_24 : decode cX1_spotAt 24 = .ok (.iadd, 1) := by decide +kernel
theorem dX1_spotAt_25 : decode cX1_spotAt 25 = .ok (.goto 4, 3) := by decide +kernel
theorem dX1_spotAt_28 : decode cX1_spotAt 28 = .ok (.iconst (-1), 1) := by decide +kernel
theorem dX1_spotAt_29 : decode cX1_spotAt 29 = .ok (.ireturn, 1) := by decide +kernel
theorem dX1_numberAt_0 : decode cX1_numberAt 0 = .ok (.aload_n 0, 1) := by decide +kernel
theorem dX1_numberAt_1 : decode cX1_numberAt 1 = .ok (.getfield 15, 3) := by decide +kernel
theorem dX1_numberAt_4 : decode cX1_numberAt 4 = .ok (.iload_n 1, 1) := by decide +kernel
theorem dX1_numberAt_5 : decode cX1_numberAt 5 = .ok (.iload_n 2, 1) := by decide +kernel
theorem dX1_numberAt_6 : decode cX1_numberAt 6 = .ok (.invokestatic 60, 3) := by decide +kernel
theorem dX1_numberAt_9 : decode cX1_numberAt 9 = .ok (.invokestatic 63, 3) := by decide +kernel
theorem dX1_numberAt_12 : decode cX1_numberAt 12 = .ok (.ireturn, 1) := by decide +kernel
theorem dX1_heightAt_0 : decode cX1_heightAt 0 = .ok (.aload_n 0, 1) := by decide +kernel
theorem dX1_heightAt_1 : decode cX1_heightAt 1 = .ok (.getfield 18, 3) := by decide +kernel
theorem dX1_heightAt_4 : decode cX1_heightAt 4 = .ok (.iload_n 1, 1) := by decide +kernel
theorem dX1_heightAt_5 : decode cX1_heightAt 5 = .ok (.iload_n 2, 1) := by decide +kernel
theorem dX1_heightAt_6 : decode cX1_heightAt 6 = .ok (.invokestatic 60, 3) := by decide +kernel
theorem dX1_heightAt_9 : decode cX1_heightAt 9 = .ok (.invokestatic 63, 3) := by decide +kernel
theorem dX1_heightAt_12 : decode cX1_heightAt 12 = .ok (.ireturn, 1) := by decide +kernel
theorem dX1_voiceAt_0 : decode cX1_voiceAt 0 = .ok (.aload_n 0, 1) := by decide +kernel
theorem dX1_voiceAt_1 : decode cX1_voiceAt 1 = .ok (.getfield 21, 3) := by decide +kernel
theorem dX1_voiceAt_4 : decode cX1_voiceAt 4 = .ok (.iload_n 1, 1) := by decide +kernel
theorem dX1_voiceAt_5 : decode cX1_voiceAt 5 = .ok (.iload_n 2, 1) := by decide +kernel
theorem dX1_voiceAt_6 : decode cX1_voiceAt 6 = .ok (.invokestatic 60, 3) := by decide +kernel
theorem dX1_voiceAt_9 : decode cX1_voiceAt 9 = .ok (.invokestatic 63, 3) := by decide +kernel
theorem dX1_voiceAt_12 : decode cX1_voiceAt 12 = .ok (.ireturn, 1) := by decide +kernel
theorem dX1_spotOfNumber_0 : decode cX1_spotOfNumber 0 = .ok (.iconst 0, 1) := by decide +kernel
theorem dX1_spotOfNumber_1 : decode cX1_spotOfNumber 1 = .ok (.istore_n 2, 1) := by decide +kernel
theorem dX1_spotOfNumber_2 : decode cX1_spotOfNumber 2 = .ok (.iload_n 2, 1) := by decide +kernel
theorem dX1_spotOfNumber_3 : decode cX1_spotOfNumber 3 = .ok (.iconst 4, 1) := by decide +kernel
theorem dX1_spotOfNumber_4 : decode cX1_spotOfNumber 4 = .ok (.if_icmp .ge 43, 3) := by decide +kernel
theorem dX1_spotOfNumber_7 : decode cX1_spotOfNumber 7 = .ok (.iconst 0, 1) := by decide +kernel
theorem dX1_spotOfNumber_8 : decode cX1_spotOfNumber 8 = .ok (.istore_n 3, 1) := by decide +kernel
theorem dX1_spotOfNumber_9 : decode cX1_spotOfNumber 9 = .ok (.iload_n 3, 1) := by decide +kernel
theorem dX1_spotOfNumber_10 : decode cX1_spotOfNumber 10 = .ok (.aload_n 0, 1) := by decide +kernel
theorem dX1_spotOfNumber_11 : decode cX1_spotOfNumber 11 = .ok (.iload_n 2, 1) := by decide +kernel
theorem dX1_spotOfNumber_12 : decode cX1_spotOfNumber 12 = .ok (.invokevirtual 56, 3) := by decide +kernel
theorem dX1_spotOfNumber_15 : decode cX1_spotOfNumber 15 = .ok (.if_icmp .ge 26, 3) := by decide +kernel
theorem dX1_spotOfNumber_18 : decode cX1_spotOfNumber 18 = .ok (.aload_n 0, 1) := by decide +kernel
theorem dX1_spotOfNumber_19 : decode cX1_spotOfNumber 19 = .ok (.iload_n 2, 1) := by decide +kernel
theorem dX1_spotOfNumber_20 : decode cX1_spotOfNumber 20 = .ok (.iload_n 3, 1) := by decide +kernel
theorem dX1_spotOfNumber_21 : decode cX1_spotOfNumber 21 = .ok (.invokevirtual 67, 3) := by decide +kernel
theorem dX1_spotOfNumber_24 : decode cX1_spotOfNumber 24 = .ok (.iload_n 1, 1) := by decide +kernel
theorem dX1_spotOfNumber_25 : decode cX1_spotOfNumber 25 = .ok (.if_icmp .ne 10, 3) := by decide +kernel
theorem dX1_spotOfNumber_28 : decode cX1_spotOfNumber 28 = .ok (.bipush 6, 2) := by decide +kernel
theorem dX1_spotOfNumber_30 : decode cX1_spotOfNumber 30 = .ok (.iload_n 2, 1) := by decide +kernel
theorem dX1_spotOfNumber_31 : decode cX1_spotOfNumber 31 = .ok (.imul, 1) := by decide +kernel
theorem dX1_spotOfNumber_32 : decode cX1_spotOfNumber 32 = .ok (.iload_n 3, 1) := by decide +kernel
theorem dX1_spotOfNumber_33 : decode cX1_spotOfNumber 33 = .ok (.iadd, 1) := by decide +kernel
theorem dX1_spotOfNumber_34 : decode cX1_spotOfNumber 34 = .ok (.ireturn, 1) := by decide +kernel
theorem dX1_spotOfNumber_35 : decode cX1_spotOfNumber 35 = .ok (.iinc 3 1, 3) := by decide +kernel
theorem dX1_spotOfNumber_38 : decode cX1_spotOfNumber 38 = .ok (.goto (-29), 3) := by decide +kernel
theorem dX1_spotOfNumber_41 : decode cX1_spotOfNumber 41 = .ok (.iinc 2 1, 3) := by decide +kernel
theorem dX1_spotOfNumber_44 : decode cX1_spotOfNumber 44 = .ok (.goto (-42), 3) := by decide +kernel
theorem dX1_spotOfNumber_47 : decode cX1_spotOfNumber 47 = .ok (.iconst (-1), 1) := by decide +kernel
theorem dX1_spotOfNumber_48 : decode cX1_spotOfNumber 48 = .ok (.ireturn, 1) := by decide +kernel
theorem dX1_arrive_0 : decode cX1_arrive 0 = .ok (.aload_n 0, 1) := by decide +kernel
theorem dX1_arrive_1 : decode cX1_arrive 1 = .ok (.getfield 35, 3) := by decide +kernel
theorem dX1_arrive_4 : decode cX1_arrive 4 = .ok (.istore 4, 2) := by decide +kernel
theorem dX1_arrive_6 : decode cX1_arrive 6 = .ok (.aload_n 0, 1) := by decide +kernel
theorem dX1_arrive_7 : decode cX1_arrive 7 = .ok (.iload_n 1, 1) := by decide +kernel
theorem dX1_arrive_8 : decode cX1_arrive 8 = .ok (.invokevirtual 56, 3) := by decide +kernel
theorem dX1_arrive_11 : decode cX1_arrive 11 = .ok (.istore 5, 2) := by decide +kernel
theorem dX1_arrive_13 : decode cX1_arrive 13 = .ok (.aload_n 0, 1) := by decide +kernel
theorem dX1_arrive_14 : decode cX1_arrive 14 = .ok (.dup, 1) := by decide +kernel
theorem dX1_arrive_15 : decode cX1_arrive 15 = .ok (.getfield 35, 3) := by decide +kernel
theorem dX1_arrive_18 : decode cX1_arrive 18 = .ok (.iconst 1, 1) := by decide +kernel
theorem dX1_arrive_19 : decode cX1_arrive 19 = .ok (.iadd, 1) := by decide +kernel
theorem dX1_arrive_20 : decode cX1_arrive 20 = .ok (.putfield 35, 3) := by decide +kernel
theorem dX1_arrive_23 : decode cX1_arrive 23 = .ok (.aload_n 0, 1) := by decide +kernel
theorem dX1_arrive_24 : decode cX1_arrive 24 = .ok (.iload_n 1, 1) := by decide +kernel
theorem dX1_arrive_25 : decode cX1_arrive 25 = .ok (.iconst 1, 1) := by decide +kernel
theorem dX1_arrive_26 : decode cX1_arrive 26 = .ok (.invokevirtual 70, 3) := by decide +kernel
theorem dX1_arrive_29 : decode cX1_arrive 29 = .ok (.iload_n 1, 1) := by decide +kernel
theorem dX1_arrive_30 : decode cX1_arrive 30 = .ok (.iload 5, 2) := by decide +kernel
theorem dX1_arrive_32 : decode cX1_arrive 32 = .ok (.invokestatic 60, 3) := by decide +kernel
theorem dX1_arrive_35 : decode cX1_arrive 35 = .ok (.istore 6, 2) := by decide +kernel
theorem dX1_arrive_37 : decode cX1_arrive 37 = .ok (.aload_n 0, 1) := by decide +kernel
theorem dX1_arrive_38 : decode cX1_arrive 38 = .ok (.getfield 15, 3) := by decide +kernel
theorem dX1_arrive_41 : decode cX1_arrive 41 = .ok (.iload 6, 2) := by decide +kernel
theorem dX1_arrive_43 : decode cX1_arrive 43 = .ok (.iload 4, 2) := by decide +kernel
theorem dX1_arrive_45 : decode cX1_arrive 45 = .ok (.invokestatic 74, 3) := by decide +kernel
theorem dX1_arrive_48 : decode cX1_arrive 48 = .ok (.aload_n 0, 1) := by decide +kernel
theorem dX1_arrive_49 : decode cX1_arrive 49 = .ok (.getfield 18, 3) := by decide +kernel
theorem dX1_arrive_52 : decode cX1_arrive 52 = .ok (.iload 6, 2) := by decide +kernel
theorem dX1_arrive_54 : decode cX1_arrive 54 = .ok (.iload_n 2, 1) := by decide +kernel
theorem dX1_arrive_55 : decode cX1_arrive 55 = .ok (.invokestatic 74, 3) := by decide +kernel
theorem dX1_arrive_58 : decode cX1_arrive 58 = .ok (.aload_n 0, 1) := by decide +kernel
theorem dX1_arrive_59 : decode cX1_arrive 59 = .ok (.getfield 21, 3) := by decide +kernel
theorem dX1_arrive_62 : decode cX1_arrive 62 = .ok (.iload 6, 2) := by decide +kernel
theorem dX1_arrive_64 : decode cX1_arrive 64 = .ok (.iload_n 3, 1) := by decide +kernel
theorem dX1_arrive_65 : decode cX1_arrive 65 = .ok (.invokestatic 74, 3) := by decide +kernel
theorem dX1_arrive_68 : decode cX1_arrive 68 = .ok (.iload 4, 2) := by decide +kernel
theorem dX1_arrive_70 : decode cX1_arrive 70 = .ok (.ireturn, 1) := by decide +kernel
theorem dX1_dismiss_0 : decode cX1_dismiss 0 = .ok (.aload_n 0, 1) := by decide +kernel
theorem dX1_dismiss_1 : decode cX1_dismiss 1 = .ok (.iload_n 1, 1) := by decide +kernel
theorem dX1_dismiss_2 : decode cX1_dismiss 2 = .ok (.iload_n 2, 1) := by decide +kernel
theorem dX1_dismiss_3 : decode cX1_dismiss 3 = .ok (.invokevirtual 67, 3) := by decide +kernel
theorem dX1_dismiss_6 : decode cX1_dismiss 6 = .ok (.istore_n 3, 1) := by decide +kernel
theorem dX1_dismiss_7 : decode cX1_dismiss 7 = .ok (.aload_n 0, 1) := by decide +kernel
theorem dX1_dismiss_8 : decode cX1_dismiss 8 = .ok (.iload_n 1, 1) := by decide +kernel
theorem dX1_dismiss_9 : decode cX1_dismiss 9 = .ok (.iload_n 2, 1) := by decide +kernel
theorem dX1_dismiss_10 : decode cX1_dismiss 10 = .ok (.invokevirtual 78, 3) := by decide +kernel
theorem dX1_dismiss_13 : decode cX1_dismiss 13 = .ok (.aload_n 0, 1) := by decide +kernel
theorem dX1_dismiss_14 : decode cX1_dismiss 14 = .ok (.iload_n 1, 1) := by decide +kernel
theorem dX1_dismiss_15 : decode cX1_dismiss 15 = .ok (.iconst (-1), 1) := by decide +kernel
theorem dX1_dismiss_16 : decode cX1_dismiss 16 = .ok (.invokevirtual 70, 3) := by decide +kernel
theorem dX1_dismiss_19 : decode cX1_dismiss 19 = .ok (.aload_n 0, 1) := by decide +kernel
theorem dX1_dismiss_20 : decode cX1_dismiss 20 = .ok (.dup, 1) := by decide +kernel
theorem dX1_dismiss_21 : decode cX1_dismiss 21 = .ok (.getfield 38, 3) := by decide +kernel
theorem dX1_dismiss_24 : decode cX1_dismiss 24 = .ok (.iconst 1, 1) := by decide +kernel
theorem dX1_dismiss_25 : decode cX1_dismiss 25 = .ok (.iadd, 1) := by decide +kernel
theorem dX1_dismiss_26 : decode cX1_dismiss 26 = .ok (.putfield 38, 3) := by decide +kernel
theorem dX1_dismiss_29 : decode cX1_dismiss 29 = .ok (.iload_n 3, 1) := by decide +kernel
theorem dX1_dismiss_30 : decode cX1_dismiss 30 = .ok (.ireturn, 1) := by decide +kernel
theorem dX1_moveOver_0 : decode cX1_moveOver 0 = .ok (.aload_n 0, 1) := by decide +kernel
theorem dX1_moveOver_1 : decode cX1_moveOver 1 = .ok (.iload_n 1, 1) := by decide +kernel
theorem dX1_moveOver_2 : decode cX1_moveOver 2 = .ok (.iload_n 2, 1) := by decide +kernel
theorem dX1_moveOver_3 : decode cX1_moveOver 3 = .ok (.invokevirtual 78, 3) := by decide +kernel
theorem dX1_moveOver_6 : decode cX1_moveOver 6 = .ok (.aload_n 0, 1) := by decide +kernel
theorem dX1_moveOver_7 : decode cX1_moveOver 7 = .ok (.iload_n 3, 1) := by decide +kernel
theorem dX1_moveOver_8 : decode cX1_moveOver 8 = .ok (.invokevirtual 56, 3) := by decide +kernel
theorem dX1_moveOver_11 : decode cX1_moveOver 11 = .ok (.istore 4, 2) := by decide +kernel
theorem dX1_moveOver_13 : decode cX1_moveOver 13 = .ok (.aload_n 0, 1) := by decide +kernel
theorem dX1_moveOver_14 : decode cX1_moveOver 14 = .ok (.iload_n 3, 1) := by decide +kernel
theorem dX1_moveOver_15 : decode cX1_moveOver 15 = .ok (.iconst 1, 1) := by decide +kernel
theorem dX1_moveOver_16 : decode cX1_moveOver 16 = .ok (.invokevirtual 70, 3) := by decide +kernel
theorem dX1_moveOver_19 : decode cX1_moveOver 19 = .ok (.aload_n 0, 1) := by decide +kernel
theorem dX1_moveOver_20 : decode cX1_moveOver 20 = .ok (.iload_n 1, 1) := by decide +kernel
theorem dX1_moveOver_21 : decode cX1_moveOver 21 = .ok (.aload_n 0, 1) := by decide +kernel
theorem dX1_moveOver_22 : decode cX1_moveOver 22 = .ok (.iload_n 1, 1) := by decide +kernel
theorem dX1_moveOver_23 : decode cX1_moveOver 23 = .ok (.invokevirtual 56, 3) := by decide +kernel
theorem dX1_moveOver_26 : decode cX1_moveOver 26 = .ok (.iconst 1, 1) := by decide +kernel
theorem dX1_moveOver_27 : decode cX1_moveOver 27 = .ok (.isub, 1) := by decide +kernel
theorem dX1_moveOver_28 : decode cX1_moveOver 28 = .ok (.iload_n 3, 1) := by decide +kernel
theorem dX1_moveOver_29 : decode cX1_moveOver 29 = .ok (.iload 4, 2) := by decide +kernel
theorem dX1_moveOver_31 : decode cX1_moveOver 31 = .ok (.invokevirtual 81, 3) := by decide +kernel
theorem dX1_moveOver_34 : decode cX1_moveOver 34 = .ok (.aload_n 0, 1) := by decide +kernel
theorem dX1_moveOver_35 : decode cX1_moveOver 35 = .ok (.iload_n 1, 1) := by decide +kernel
theorem dX1_moveOver_36 : decode cX1_moveOver 36 = .ok (.iconst (-1), 1) := by decide +kernel
theorem dX1_moveOver_37 : decode cX1_moveOver 37 = .ok (.invokevirtual 70, 3) := by decide +kernel
theorem dX1_moveOver_40 : decode cX1_moveOver 40 = .ok (.iload 4, 2) := by decide +kernel
theorem dX1_moveOver_42 : decode cX1_moveOver 42 = .ok (.ireturn, 1) := by decide +kernel
theorem dX1_moveToRightEnd_0 : decode cX1_moveToRightEnd 0 = .ok (.iload_n 2, 1) := by decide +kernel
theorem dX1_moveToRightEnd_1 : decode cX1_moveToRightEnd 1 = .ok (.istore_n 3, 1) := by decide +kernel
theorem dX1_moveToRightEnd_2 : decode cX1_moveToRightEnd 2 = .ok (.iload_n 3, 1) := by decide +kernel
theorem dX1_moveToRightEnd_3 : decode cX1_moveToRightEnd 3 = .ok (.aload_n 0, 1) := by decide +kernel
theorem dX1_moveToRightEnd_4 : decode cX1_moveToRightEnd 4 = .ok (.iload_n 1, 1) := by decide +kernel
theorem dX1_moveToRightEnd_5 : decode cX1_moveToRightEnd 5 = .ok (.invokevirtual 56, 3) := by decide +kernel
theorem dX1_moveToRightEnd_8 : decode cX1_moveToRightEnd 8 = .ok (.iconst 1, 1) := by decide +kernel
theorem dX1_moveToRightEnd_9 : decode cX1_moveToRightEnd 9 = .ok (.isub, 1) := by decide +kernel
theorem dX1_moveToRightEnd_10 : decode cX1_moveToRightEnd 10 = .ok (.if_icmp .ge 19, 3) := by decide +kernel
theorem dX1_moveToRightEnd_13 : decode cX1_moveToRightEnd 13 = .ok (.aload_n 0, 1) := by decide +kernel
theorem dX1_moveToRightEnd_14 : decode cX1_moveToRightEnd 14 = .ok (.iload_n 1, 1) := by decide +kernel
theorem dX1_moveToRightEnd_15 : decode cX1_moveToRightEnd 15 = .ok (.iload_n 3, 1) := by decide +kernel
theorem dX1_moveToRightEnd_16 : decode cX1_moveToRightEnd 16 = .ok (.iload_n 1, 1) := by decide +kernel
theorem dX1_moveToRightEnd_17 : decode cX1_moveToRightEnd 17 = .ok (.iload_n 3, 1) := by decide +kernel
theorem dX1_moveToRightEnd_18 : decode cX1_moveToRightEnd 18 = .ok (.iconst 1, 1) := by decide +kernel
theorem dX1_moveToRightEnd_19 : decode cX1_moveToRightEnd 19 = .ok (.iadd, 1) := by decide +kernel
theorem dX1_moveToRightEnd_20 : decode cX1_moveToRightEnd 20 = .ok (.invokevirtual 81, 3) := by decide +kernel
theorem dX1_moveToRightEnd_23 : decode cX1_moveToRightEnd 23 = .ok (.iinc 3 1, 3) := by decide +kernel
theorem dX1_moveToRightEnd_26 : decode cX1_moveToRightEnd 26 = .ok (.goto (-24), 3) := by decide +kernel
theorem dX1_moveToRightEnd_29 : decode cX1_moveToRightEnd 29 = .ok (.return_, 1) := by decide +kernel
theorem dX1_changeHeight_0 : decode cX1_changeHeight 0 = .ok (.aload_n 0, 1) := by decide +kernel
theorem dX1_changeHeight_1 : decode cX1_changeHeight 1 = .ok (.getfield 18, 3) := by decide +kernel
theorem dX1_changeHeight_4 : decode cX1_changeHeight 4 = .ok (.iload_n 1, 1) := by decide +kernel
theorem dX1_changeHeight_5 : decode cX1_changeHeight 5 = .ok (.iload_n 2, 1) := by decide +kernel
theorem dX1_changeHeight_6 : decode cX1_changeHeight 6 = .ok (.invokestatic 60, 3) := by decide +kernel
theorem dX1_changeHeight_9 : decode cX1_changeHeight 9 = .ok (.iload_n 3, 1) := by decide +kernel
theorem dX1_changeHeight_10 : decode cX1_changeHeight 10 = .ok (.invokestatic 74, 3) := by decide +kernel
theorem dX1_changeHeight_13 : decode cX1_changeHeight 13 = .ok (.return_, 1) := by decide +kernel
theorem dX1_swapPlaces_0 : decode cX1_swapPlaces 0 = .ok (.iload_n 1, 1) := by decide +kernel
theorem dX1_swapPlaces_1 : decode cX1_swapPlaces 1 = .ok (.iload_n 2, 1) := by decide +kernel
theorem dX1_swapPlaces_2 : decode cX1_swapPlaces 2 = .ok (.invokestatic 60, 3) := by decide +kernel
theorem dX1_swapPlaces_5 : decode cX1_swapPlaces 5 = .ok (.istore 5, 2) := by decide +kernel
theorem dX1_swapPlaces_7 : decode cX1_swapPlaces 7 = .ok (.iload_n 3, 1) := by decide +kernel
theorem dX1_swapPlaces_8 : decode cX1_swapPlaces 8 = .ok (.iload 4, 2) := by decide +kernel
theorem dX1_swapPlaces_10 : decode cX1_swapPlaces 10 = .ok (.invokestatic 60, 3) := by decide +kernel
theorem dX1_swapPlaces_13 : decode cX1_swapPlaces 13 = .ok (.istore 6, 2) := by decide +kernel
theorem dX1_swapPlaces_15 : decode cX1_swapPlaces 15 = .ok (.aload_n 0, 1) := by decide +kernel
theorem dX1_swapPlaces_16 : decode cX1_swapPlaces 16 = .ok (.getfield 15, 3) := by decide +kernel
theorem dX1_swapPlaces_19 : decode cX1_swapPlaces 19 = .ok (.iload 5, 2) := by decide +kernel
theorem dX1_swapPlaces_21 : decode cX1_swapPlaces 21 = .ok (.iload 6, 2) := by decide +kernel
theorem dX1_swapPlaces_23 : decode cX1_swapPlaces 23 = .ok (.invokestatic 85, 3) := by decide +kernel
theorem dX1_swapPlaces_26 : decode cX1_swapPlaces 26 = .ok (.aload_n 0, 1) := by decide +kernel
theorem dX1_swapPlaces_27 : decode cX1_swapPlaces 27 = .ok (.getfield 18, 3) := by decide +kernel
theorem dX1_swapPlaces_30 : decode cX1_swapPlaces 30 = .ok (.iload 5, 2) := by decide +kernel
theorem dX1_swapPlaces_32 : decode cX1_swapPlaces 32 = .ok (.iload 6, 2) := by decide +kernel
theorem dX1_swapPlaces_34 : decode cX1_swapPlaces 34 = .ok (.invokestatic 85, 3) := by decide +kernel
theorem dX1_swapPlaces_37 : decode cX1_swapPlaces 37 = .ok (.aload_n 0, 1) := by decide +kernel
theorem dX1_swapPlaces_38 : decode cX1_swapPlaces 38 = .ok (.getfield 21, 3) := by decide +kernel
theorem dX1_swapPlaces_41 : decode cX1_swapPlaces 41 = .ok (.iload 5, 2) := by decide +kernel
theorem dX1_swapPlaces_43 : decode cX1_swapPlaces 43 = .ok (.iload 6, 2) := by decide +kernel
theorem dX1_swapPlaces_45 : decode cX1_swapPlaces 45 = .ok (.invokestatic 85, 3) := by decide +kernel
theorem dX1_swapPlaces_48 : decode cX1_swapPlaces 48 = .ok (.return_, 1) := by decide +kernel
theorem dX1_swapCells_0 : decode cX1_swapCells 0 = .ok (.aload_n 0, 1) := by decide +kernel
theorem dX1_swapCells_1 : decode cX1_swapCells 1 = .ok (.iload_n 1, 1) := by decide +kernel
theorem dX1_swapCells_2 : decode cX1_swapCells 2 = .ok (.invokestatic 63, 3) := by decide +kernel
theorem dX1_swapCells_5 : decode cX1_swapCells 5 = .ok (.istore_n 3, 1) := by decide +kernel
theorem dX1_swapCells_6 : decode cX1_swapCells 6 = .ok (.aload_n 0, 1) := by decide +kernel
theorem dX1_swapCells_7 : decode cX1_swapCells 7 = .ok (.iload_n 1, 1) := by decide +kernel
theorem dX1_swapCells_8 : decode cX1_swapCells 8 = .ok (.aload_n 0, 1) := by decide +kernel
theorem dX1_swapCells_9 : decode cX1_swapCells 9 = .ok (.iload_n 2, 1) := by decide +kernel
theorem dX1_swapCells_10 : decode cX1_swapCells 10 = .ok (.invokestatic 63, 3) := by decide +kernel
theorem dX1_swapCells_13 : decode cX1_swapCells 13 = .ok (.invokestatic 74, 3) := by decide +kernel
theorem dX1_swapCells_16 : decode cX1_swapCells 16 = .ok (.aload_n 0, 1) := by decide +kernel
theorem dX1_swapCells_17 : decode cX1_swapCells 17 = .ok (.iload_n 2, 1) := by decide +kernel
theorem dX1_swapCells_18 : decode cX1_swapCells 18 = .ok (.iload_n 3, 1) := by decide +kernel
theorem dX1_swapCells_19 : decode cX1_swapCells 19 = .ok (.invokestatic 74, 3) := by decide +kernel
theorem dX1_swapCells_22 : decode cX1_swapCells 22 = .ok (.return_, 1) := by decide +kernel
theorem dX1_swapAndCount_0 : decode cX1_swapAndCount 0 = .ok (.aload_n 0, 1) := by decide +kernel
theorem dX1_swapAndCount_1 : decode cX1_swapAndCount 1 = .ok (.iload_n 1, 1) := by decide +kernel
theorem dX1_swapAndCount_2 : decode cX1_swapAndCount 2 = .ok (.iload_n 2, 1) := by decide +kernel
theorem dX1_swapAndCount_3 : decode cX1_swapAndCount 3 = .ok (.iload_n 3, 1) := by decide +kernel
theorem dX1_swapAndCount_4 : decode cX1_swapAndCount 4 = .ok (.iload 4, 2) := by decide +kernel
theorem dX1_swapAndCount_6 : decode cX1_swapAndCount 6 = .ok (.invokevirtual 81, 3) := by decide +kernel
theorem dX1_swapAndCount_9 : decode cX1_swapAndCount 9 = .ok (.aload_n 0, 1) := by decide +kernel
theorem dX1_swapAndCount_10 : decode cX1_swapAndCount 10 = .ok (.dup, 1) := by decide +kernel
theorem dX1_swapAndCount_11 : decode cX1_swapAndCount 11 = .ok (.getfield 41, 3) := by decide +kernel
theorem dX1_swapAndCount_14 : decode cX1_swapAndCount 14 = .ok (.iconst 1, 1) := by decide +kernel
theorem dX1_swapAndCount_15 : decode cX1_swapAndCount 15 = .ok (.iadd, 1) := by decide +kernel
theorem dX1_swapAndCount_16 : decode cX1_swapAndCount 16 = .ok (.putfield 41, 3) := by decide +kernel
theorem dX1_swapAndCount_19 : decode cX1_swapAndCount 19 = .ok (.return_, 1) := by decide +kernel
theorem dX1_turnRound_0 : decode cX1_turnRound 0 = .ok (.aload_n 0, 1) := by decide +kernel
theorem dX1_turnRound_1 : decode cX1_turnRound 1 = .ok (.iload_n 1, 1) := by decide +kernel
theorem dX1_turnRound_2 : decode cX1_turnRound 2 = .ok (.invokevirtual 56, 3) := by decide +kernel
theorem dX1_turnRound_5 : decode cX1_turnRound 5 = .ok (.iconst 1, 1) := by decide +kernel
theorem dX1_turnRound_6 : decode cX1_turnRound 6 = .ok (.isub, 1) := by decide +kernel
theorem dX1_turnRound_7 : decode cX1_turnRound 7 = .ok (.istore_n 2, 1) := by decide +kernel
theorem dX1_turnRound_8 : decode cX1_turnRound 8 = .ok (.iconst 0, 1) := by decide +kernel
theorem dX1_turnRound_9 : decode cX1_turnRound 9 = .ok (.istore_n 3, 1) := by decide +kernel
theorem dX1_turnRound_10 : decode cX1_turnRound 10 = .ok (.iload_n 3, 1) := by decide +kernel
theorem dX1_turnRound_11 : decode cX1_turnRound 11 = .ok (.iload_n 2, 1) := by decide +kernel
theorem dX1_turnRound_12 : decode cX1_turnRound 12 = .ok (.iload_n 3, 1) := by decide +kernel
theorem dX1_turnRound_13 : decode cX1_turnRound 13 = .ok (.isub, 1) := by decide +kernel
theorem dX1_turnRound_14 : decode cX1_turnRound 14 = .ok (.if_icmp .ge 19, 3) := by decide +kernel
theorem dX1_turnRound_17 : decode cX1_turnRound 17 = .ok (.aload_n 0, 1) := by decide +kernel
theorem dX1_turnRound_18 : decode cX1_turnRound 18 = .ok (.iload_n 1, 1) := by decide +kernel
theorem dX1_turnRound_19 : decode cX1_turnRound 19 = .ok (.iload_n 3, 1) := by decide +kernel
theorem dX1_turnRound_20 : decode cX1_turnRound 20 = .ok (.iload_n 1, 1) := by decide +kernel
theorem dX1_turnRound_21 : decode cX1_turnRound 21 = .ok (.iload_n 2, 1) := by decide +kernel
theorem dX1_turnRound_22 : decode cX1_turnRound 22 = .ok (.iload_n 3, 1) := by decide +kernel
theorem dX1_turnRound_23 : decode cX1_turnRound 23 = .ok (.isub, 1) := by decide +kernel
theorem dX1_turnRound_24 : decode cX1_turnRound 24 = .ok (.invokevirtual 81, 3) := by decide +kernel
theorem dX1_turnRound_27 : decode cX1_turnRound 27 = .ok (.iinc 3 1, 3) := by decide +kernel
theorem dX1_turnRound_30 : decode cX1_turnRound 30 = .ok (.goto (-20), 3) := by decide +kernel
theorem dX1_turnRound_33 : decode cX1_turnRound 33 = .ok (.return_, 1) := by decide +kernel
theorem dX1_putInOrder_0 : decode cX1_putInOrder 0 = .ok (.iconst 1, 1) := by decide +kernel
theorem dX1_putInOrder_1 : decode cX1_putInOrder 1 = .ok (.istore_n 3, 1) := by decide +kernel
theorem dX1_putInOrder_2 : decode cX1_putInOrder 2 = .ok (.iload_n 3, 1) := by decide +kernel
theorem dX1_putInOrder_3 : decode cX1_putInOrder 3 = .ok (.aload_n 0, 1) := by decide +kernel
theorem dX1_putInOrder_4 : decode cX1_putInOrder 4 = .ok (.iload_n 1, 1) := by decide +kernel
theorem dX1_putInOrder_5 : decode cX1_putInOrder 5 = .ok (.invokevirtual 56, 3) := by decide +kernel
theorem dX1_putInOrder_8 : decode cX1_putInOrder 8 = .ok (.if_icmp .ge 56, 3) := by decide +kernel
theorem dX1_putInOrder_11 : decode cX1_putInOrder 11 = .ok (.iload_n 3, 1) := by decide +kernel
theorem dX1_putInOrder_12 : decode cX1_putInOrder 12 = .ok (.istore 4, 2) := by decide +kernel
theorem dX1_putInOrder_14 : decode cX1_putInOrder 14 = .ok (.iload 4, 2) := by decide +kernel
theorem dX1_putInOrder_16 : decode cX1_putInOrder 16 = .ok (.ifCond .le 42, 3) := by decide +kernel
theorem dX1_putInOrder_19 : decode cX1_putInOrder 19 = .ok (.aload_n 0, 1) := by decide +kernel
theorem dX1_putInOrder_20 : decode cX1_putInOrder 20 = .ok (.iload_n 1, 1) := by decide +kernel
theorem dX1_putInOrder_21 : decode cX1_putInOrder 21 = .ok (.iload 4, 2) := by decide +kernel
theorem dX1_putInOrder_23 : decode cX1_putInOrder 23 = .ok (.iload_n 2, 1) := by decide +kernel
theorem dX1_putInOrder_24 : decode cX1_putInOrder 24 = .ok (.invokevirtual 88, 3) := by decide +kernel
theorem dX1_putInOrder_27 : decode cX1_putInOrder 27 = .ok (.aload_n 0, 1) := by decide +kernel
theorem dX1_putInOrder_28 : decode cX1_putInOrder 28 = .ok (.iload_n 1, 1) := by decide +kernel
theorem dX1_putInOrder_29 : decode cX1_putInOrder 29 = .ok (.iload 4, 2) := by decide +kernel
theorem dX1_putInOrder_31 : decode cX1_putInOrder 31 = .ok (.iconst 1, 1) := by decide +kernel
theorem dX1_putInOrder_32 : decode cX1_putInOrder 32 = .ok (.isub, 1) := by decide +kernel
theorem dX1_putInOrder_33 : decode cX1_putInOrder 33 = .ok (.iload_n 2, 1) := by decide +kernel
theorem dX1_putInOrder_34 : decode cX1_putInOrder 34 = .ok (.invokevirtual 88, 3) := by decide +kernel
theorem dX1_putInOrder_37 : decode cX1_putInOrder 37 = .ok (.if_icmp .ge 21, 3) := by decide +kernel
theorem dX1_putInOrder_40 : decode cX1_putInOrder 40 = .ok (.aload_n 0, 1) := by decide +kernel
theorem dX1_putInOrder_41 : decode cX1_putInOrder 41 = .ok (.iload_n 1, 1) := by decide +kernel
theorem dX1_putInOrder_42 : decode cX1_putInOrder 42 = .ok (.iload 4, 2) := by decide +kernel
theorem dX1_putInOrder_44 : decode cX1_putInOrder 44 = .ok (.iconst 1, 1) := by decide +kernel
theorem dX1_putInOrder_45 : decode cX1_putInOrder 45 = .ok (.isub, 1) := by decide +kernel
theorem dX1_putInOrder_46 : decode cX1_putInOrder 46 = .ok (.iload_n 1, 1) := by decide +kernel
theorem dX1_putInOrder_47 : decode cX1_putInOrder 47 = .ok (.iload 4, 2) := by decide +kernel
theorem dX1_putInOrder_49 : decode cX1_putInOrder 49 = .ok (.invokevirtual 81, 3) := by decide +kernel
theorem dX1_putInOrder_52 : decode cX1_putInOrder 52 = .ok (.iinc 4 (-1), 3) := by decide +kernel
theorem dX1_putInOrder_55 : decode cX1_putInOrder 55 = .ok (.goto (-41), 3) := by decide +kernel
theorem dX1_putInOrder_58 : decode cX1_putInOrder 58 = .ok (.iinc 3 1, 3) := by decide +kernel
theorem dX1_putInOrder_61 : decode cX1_putInOrder 61 = .ok (.goto (-59), 3) := by decide +kernel
theorem dX1_putInOrder_64 : decode cX1_putInOrder 64 = .ok (.return_, 1) := by decide +kernel
theorem dX1_rankAt_0 : decode cX1_rankAt 0 = .ok (.iload_n 3, 1) := by decide +kernel
theorem dX1_rankAt_1 : decode cX1_rankAt 1 = .ok (.lookupswitch 42 #[(0, 27), (1, 34)], 27) := by decide +kernel
theorem dX1_rankAt_28 : decode cX1_rankAt 28 = .ok (.aload_n 0, 1) := by decide +kernel
theorem dX1_rankAt_29 : decode cX1_rankAt 29 = .ok (.iload_n 1, 1) := by decide +kernel
theorem dX1_rankAt_30 : decode cX1_rankAt 30 = .ok (.iload_n 2, 1) := by decide +kernel
theorem dX1_rankAt_31 : decode cX1_rankAt 31 = .ok (.invokevirtual 92, 3) := by decide +kernel
theorem dX1_rankAt_34 : decode cX1_rankAt 34 = .ok (.ireturn, 1) := by decide +kernel
theorem dX1_rankAt_35 : decode cX1_rankAt 35 = .ok (.aload_n 0, 1) := by decide +kernel
theorem dX1_rankAt_36 : decode cX1_rankAt 36 = .ok (.iload_n 1, 1) := by decide +kernel
theorem dX1_rankAt_37 : decode cX1_rankAt 37 = .ok (.iload_n 2, 1) := by decide +kernel
theorem dX1_rankAt_38 : decode cX1_rankAt 38 = .ok (.invokevirtual 92, 3) := by decide +kernel
theorem dX1_rankAt_41 : decode cX1_rankAt 41 = .ok (.ineg, 1) := by decide +kernel
theorem dX1_rankAt_42 : decode cX1_rankAt 42 = .ok (.ireturn, 1) := by decide +kernel
theorem dX1_rankAt_43 : decode cX1_rankAt 43 = .ok (.aload_n 0, 1) := by decide +kernel
theorem dX1_rankAt_44 : decode cX1_rankAt 44 = .ok (.iload_n 1, 1) := by decide +kernel
theorem dX1_rankAt_45 : decode cX1_rankAt 45 = .ok (.iload_n 2, 1) := by decide +kernel
theorem dX1_rankAt_46 : decode cX1_rankAt 46 = .ok (.invokevirtual 95, 3) := by decide +kernel
theorem dX1_rankAt_49 : decode cX1_rankAt 49 = .ok (.ireturn, 1) := by decide +kernel
theorem dX1_highestOf_0 : decode cX1_highestOf 0 = .ok (.iconst (-1), 1) := by decide +kernel
theorem dX1_highestOf_1 : decode cX1_highestOf 1 = .ok (.istore_n 2, 1) := by decide +kernel
theorem dX1_highestOf_2 : decode cX1_highestOf 2 = .ok (.iconst 0, 1) := by decide +kernel
theorem dX1_highestOf_3 : decode cX1_highestOf 3 = .ok (.istore_n 3, 1) := by decide +kernel
theorem dX1_highestOf_4 : decode cX1_highestOf 4 = .ok (.iload_n 3, 1) := by decide +kernel
theorem dX1_highestOf_5 : decode cX1_highestOf 5 = .ok (.aload_n 0, 1) := by decide +kernel
theorem dX1_highestOf_6 : decode cX1_highestOf 6 = .ok (.iload_n 1, 1) := by decide +kernel
theorem dX1_highestOf_7 : decode cX1_highestOf 7 = .ok (.invokevirtual 56, 3) := by decide +kernel
theorem dX1_highestOf_10 : decode cX1_highestOf 10 = .ok (.if_icmp .ge 20, 3) := by decide +kernel
theorem dX1_highestOf_13 : decode cX1_highestOf 13 = .ok (.iload_n 2, 1) := by decide +kernel
theorem dX1_highestOf_14 : decode cX1_highestOf 14 = .ok (.aload_n 0, 1) := by decide +kernel
theorem dX1_highestOf_15 : decode cX1_highestOf 15 = .ok (.iload_n 1, 1) := by decide +kernel
theorem dX1_highestOf_16 : decode cX1_highestOf 16 = .ok (.iload_n 3, 1) := by decide +kernel
theorem dX1_highestOf_17 : decode cX1_highestOf 17 = .ok (.invokevirtual 92, 3) := by decide +kernel
theorem dX1_highestOf_20 : decode cX1_highestOf 20 = .ok (.invokestatic 98, 3) := by decide +kernel
theorem dX1_highestOf_23 : decode cX1_highestOf 23 = .ok (.istore_n 2, 1) := by decide +kernel
theorem dX1_highestOf_24 : decode cX1_highestOf 24 = .ok (.iinc 3 1, 3) := by decide +kernel
theorem dX1_highestOf_27 : decode cX1_highestOf 27 = .ok (.goto (-23), 3) := by decide +kernel
theorem dX1_highestOf_30 : decode cX1_highestOf 30 = .ok (.iload_n 2, 1) := by decide +kernel
theorem dX1_highestOf_31 : decode cX1_highestOf 31 = .ok (.ireturn, 1) := by decide +kernel
theorem dX1_discordOf_0 : decode cX1_discordOf 0 = .ok (.iconst 0, 1) := by decide +kernel
theorem dX1_discordOf_1 : decode cX1_discordOf 1 = .ok (.istore_n 2, 1) := by decide +kernel
theorem dX1_discordOf_2 : decode cX1_discordOf 2 = .ok (.iconst 0, 1) := by decide +kernel
theorem dX1_discordOf_3 : decode cX1_discordOf 3 = .ok (.istore_n 3, 1) := by decide +kernel
theorem dX1_discordOf_4 : decode cX1_discordOf 4 = .ok (.iload_n 3, 1) := by decide +kernel
theorem dX1_discordOf_5 : decode cX1_discordOf 5 = .ok (.aload_n 0, 1) := by decide +kernel
theorem dX1_discordOf_6 : decode cX1_discordOf 6 = .ok (.iload_n 1, 1) := by decide +kernel
theorem dX1_discordOf_7 : decode cX1_discordOf 7 = .ok (.invokevirtual 56, 3) := by decide +kernel
theorem dX1_discordOf_10 : decode cX1_discordOf 10 = .ok (.if_icmp .ge 27, 3) := by decide +kernel
theorem dX1_discordOf_13 : decode cX1_discordOf 13 = .ok (.iload_n 2, 1) := by decide +kernel
theorem dX1_discordOf_14 : decode cX1_discordOf 14 = .ok (.aload_n 0, 1) := by decide +kernel
theorem dX1_discordOf_15 : decode cX1_discordOf 15 = .ok (.iload_n 1, 1) := by decide +kernel
theorem dX1_discordOf_16 : decode cX1_discordOf 16 = .ok (.iconst 0, 1) := by decide +kernel
theorem dX1_discordOf_17 : decode cX1_discordOf 17 = .ok (.iload_n 3, 1) := by decide +kernel
theorem dX1_discordOf_18 : decode cX1_discordOf 18 = .ok (.iconst 1, 1) := by decide +kernel
theorem dX1_discordOf_19 : decode cX1_discordOf 19 = .ok (.isub, 1) := by decide +kernel
theorem dX1_discordOf_20 : decode cX1_discordOf 20 = .ok (.aload_n 0, 1) := by decide +kernel
theorem dX1_discordOf_21 : decode cX1_discordOf 21 = .ok (.iload_n 1, 1) := by decide +kernel
theorem dX1_discordOf_22 : decode cX1_discordOf 22 = .ok (.iload_n 3, 1) := by decide +kernel
theorem dX1_discordOf_23 : decode cX1_discordOf 23 = .ok (.invokevirtual 92, 3) := by decide +kernel
theorem dX1_discordOf_26 : decode cX1_discordOf 26 = .ok (.invokevirtual 101, 3) := by decide +kernel
theorem dX1_discordOf_29 : decode cX1_discordOf 29 = .ok (.iadd, 1) := by decide +kernel
theorem dX1_discordOf_30 : decode cX1_discordOf 30 = .ok (.istore_n 2, 1) := by decide +kernel
theorem dX1_discordOf_31 : decode cX1_discordOf 31 = .ok (.iinc 3 1, 3) := by decide +kernel
theorem dX1_discordOf_34 : decode cX1_discordOf 34 = .ok (.goto (-30), 3) := by decide +kernel
theorem dX1_discordOf_37 : decode cX1_discordOf 37 = .ok (.iload_n 2, 1) := by decide +kernel
theorem dX1_discordOf_38 : decode cX1_discordOf 38 = .ok (.ireturn, 1) := by decide +kernel
theorem dX1_discordOfAll_0 : decode cX1_discordOfAll 0 = .ok (.iconst 0, 1) := by decide +kernel
theorem dX1_discordOfAll_1 : decode cX1_discordOfAll 1 = .ok (.istore_n 1, 1) := by decide +kernel
theorem dX1_discordOfAll_2 : decode cX1_discordOfAll 2 = .ok (.iconst 0, 1) := by decide +kernel
theorem dX1_discordOfAll_3 : decode cX1_discordOfAll 3 = .ok (.istore_n 2, 1) := by decide +kernel
theorem dX1_discordOfAll_4 : decode cX1_discordOfAll 4 = .ok (.iload_n 2, 1) := by decide +kernel
theorem dX1_discordOfAll_5 : decode cX1_discordOfAll 5 = .ok (.iconst 4, 1) := by decide +kernel
theorem dX1_discordOfAll_6 : decode cX1_discordOfAll 6 = .ok (.if_icmp .ge 17, 3) := by decide +kernel
theorem dX1_discordOfAll_9 : decode cX1_discordOfAll 9 = .ok (.iload_n 1, 1) := by decide +kernel
theorem dX1_discordOfAll_10 : decode cX1_discordOfAll 10 = .ok (.aload_n 0, 1) := by decide +kernel
theorem dX1_discordOfAll_11 : decode cX1_discordOfAll 11 = .ok (.iload_n 2, 1) := by decide +kernel
theorem dX1_discordOfAll_12 : decode cX1_discordOfAll 12 = .ok (.invokevirtual 105, 3) := by decide +kernel
theorem dX1_discordOfAll_15 : decode cX1_discordOfAll 15 = .ok (.iadd, 1) := by decide +kernel
theorem dX1_discordOfAll_16 : decode cX1_discordOfAll 16 = .ok (.istore_n 1, 1) := by decide +kernel
theorem dX1_discordOfAll_17 : decode cX1_discordOfAll 17 = .ok (.iinc 2 1, 3) := by decide +kernel
theorem dX1_discordOfAll_20 : decode cX1_discordOfAll 20 = .ok (.goto (-16), 3) := by decide +kernel
theorem dX1_discordOfAll_23 : decode cX1_discordOfAll 23 = .ok (.iload_n 1, 1) := by decide +kernel
theorem dX1_discordOfAll_24 : decode cX1_discordOfAll 24 = .ok (.ireturn, 1) := by decide +kernel
theorem dX1_rowBehind_0 : decode cX1_rowBehind 0 = .ok (.aload_n 0, 1) := by decide +kernel
theorem dX1_rowBehind_1 : decode cX1_rowBehind 1 = .ok (.getfield 28, 3) := by decide +kernel
theorem dX1_rowBehind_4 : decode cX1_rowBehind 4 = .ok (.iconst 1, 1) := by decide +kernel
theorem dX1_rowBehind_5 : decode cX1_rowBehind 5 = .ok (.if_icmp .ne 9, 3) := by decide +kernel
theorem dX1_rowBehind_8 : decode cX1_rowBehind 8 = .ok (.iload_n 1, 1) := by decide +kernel
theorem dX1_rowBehind_9 : decode cX1_rowBehind 9 = .ok (.iconst 1, 1) := by decide +kernel
theorem dX1_rowBehind_10 : decode cX1_rowBehind 10 = .ok (.iadd, 1) := by decide +kernel
theorem dX1_rowBehind_11 : decode cX1_rowBehind 11 = .ok (.goto 4, 3) := by decide +kernel
theorem dX1_rowBehind_14 : decode cX1_rowBehind 14 = .ok (.iconst (-1), 1) := by decide +kernel
theorem dX1_rowBehind_15 : decode cX1_rowBehind 15 = .ok (.ireturn, 1) := by decide +kernel
theorem dX1_rowBefore_0 : decode cX1_rowBefore 0 = .ok (.aload_n 0, 1) := by decide +kernel
theorem dX1_rowBefore_1 : decode cX1_rowBefore 1 = .ok (.getfield 28, 3) := by decide +kernel
theorem dX1_rowBefore_4 : decode cX1_rowBefore 4 = .ok (.iconst 1, 1) := by decide +kernel
theorem dX1_rowBefore_5 : decode cX1_rowBefore 5 = .ok (.if_icmp .ne 9, 3) := by decide +kernel
theorem dX1_rowBefore_8 : decode cX1_rowBefore 8 = .ok (.iload_n 1, 1) := by decide +kernel
theorem dX1_rowBefore_9 : decode cX1_rowBefore 9 = .ok (.iconst 1, 1) := by decide +kernel
theorem dX1_rowBefore_10 : decode cX1_rowBefore 10 = .ok (.isub, 1) := by decide +kernel
theorem dX1_rowBefore_11 : decode cX1_rowBefore 11 = .ok (.goto 4, 3) := by decide +kernel
theorem dX1_rowBefore_14 : decode cX1_rowBefore 14 = .ok (.iconst (-1), 1) := by decide +kernel
theorem dX1_rowBefore_15 : decode cX1_rowBefore 15 = .ok (.ireturn, 1) := by decide +kernel
theorem dX1_heardBy_0 : decode cX1_heardBy 0 = .ok (.aload_n 0, 1) := by decide +kernel
theorem dX1_heardBy_1 : decode cX1_heardBy 1 = .ok (.iload_n 1, 1) := by decide +kernel
theorem dX1_heardBy_2 : decode cX1_heardBy 2 = .ok (.iload_n 2, 1) := by decide +kernel
theorem dX1_heardBy_3 : decode cX1_heardBy 3 = .ok (.aload_n 0, 1) := by decide +kernel
theorem dX1_heardBy_4 : decode cX1_heardBy 4 = .ok (.getfield 24, 3) := by decide +kernel
theorem dX1_heardBy_7 : decode cX1_heardBy 7 = .ok (.isub, 1) := by decide +kernel
theorem dX1_heardBy_8 : decode cX1_heardBy 8 = .ok (.iload_n 2, 1) := by decide +kernel
theorem dX1_heardBy_9 : decode cX1_heardBy 9 = .ok (.iconst 1, 1) := by decide +kernel
theorem dX1_heardBy_10 : decode cX1_heardBy 10 = .ok (.isub, 1) := by decide +kernel
theorem dX1_heardBy_11 : decode cX1_heardBy 11 = .ok (.invokevirtual 108, 3) := by decide +kernel
theorem dX1_heardBy_14 : decode cX1_heardBy 14 = .ok (.aload_n 0, 1) := by decide +kernel
theorem dX1_heardBy_15 : decode cX1_heardBy 15 = .ok (.aload_n 0, 1) := by decide +kernel
theorem dX1_heardBy_16 : decode cX1_heardBy 16 = .ok (.iload_n 1, 1) := by decide +kernel
theorem dX1_heardBy_17 : decode cX1_heardBy 17 = .ok (.invokevirtual 111, 3) := by decide +kernel
theorem dX1_heardBy_20 : decode cX1_heardBy 20 = .ok (.iload_n 2, 1) := by decide +kernel
theorem dX1_heardBy_21 : decode cX1_heardBy 21 = .ok (.aload_n 0, 1) := by decide +kernel
theorem dX1_heardBy_22 : decode cX1_heardBy 22 = .ok (.getfield 24, 3) := by decide +kernel
theorem dX1_heardBy_25 : decode cX1_heardBy 25 = .ok (.isub, 1) := by decide +kernel
theorem dX1_heardBy_26 : decode cX1_heardBy 26 = .ok (.iload_n 2, 1) := by decide +kernel
theorem dX1_heardBy_27 : decode cX1_heardBy 27 = .ok (.invokevirtual 108, 3) := by decide +kernel
theorem dX1_heardBy_30 : decode cX1_heardBy 30 = .ok (.iadd, 1) := by decide +kernel
theorem dX1_heardBy_31 : decode cX1_heardBy 31 = .ok (.ireturn, 1) := by decide +kernel
theorem dX1_hearersOf_0 : decode cX1_hearersOf 0 = .ok (.aload_n 0, 1) := by decide +kernel
theorem dX1_hearersOf_1 : decode cX1_hearersOf 1 = .ok (.iload_n 1, 1) := by decide +kernel
theorem dX1_hearersOf_2 : decode cX1_hearersOf 2 = .ok (.iload_n 2, 1) := by decide +kernel
theorem dX1_hearersOf_3 : decode cX1_hearersOf 3 = .ok (.iconst 1, 1) := by decide +kernel
theorem dX1_hearersOf_4 : decode cX1_hearersOf 4 = .ok (.iadd, 1) := by decide +kernel
theorem dX1_hearersOf_5 : decode cX1_hearersOf 5 = .ok (.iload_n 2, 1) := by decide +kernel
theorem dX1_hearersOf_6 : decode cX1_hearersOf 6 = .ok (.aload_n 0, 1) := by decide +kernel
theorem dX1_hearersOf_7 : decode cX1_hearersOf 7 = .ok (.getfield 24, 3) := by decide +kernel
theorem dX1_hearersOf_10 : decode cX1_hearersOf 10 = .ok (.iadd, 1) := by decide +kernel
theorem dX1_hearersOf_11 : decode cX1_hearersOf 11 = .ok (.invokevirtual 108, 3) := by decide +kernel
theorem dX1_hearersOf_14 : decode cX1_hearersOf 14 = .ok (.aload_n 0, 1) := by decide +kernel
theorem dX1_hearersOf_15 : decode cX1_hearersOf 15 = .ok (.aload_n 0, 1) := by decide +kernel
theorem dX1_hearersOf_16 : decode cX1_hearersOf 16 = .ok (.iload_n 1, 1) := by decide +kernel
theorem dX1_hearersOf_17 : decode cX1_hearersOf 17 = .ok (.invokevirtual 114, 3) := by decide +kernel
theorem dX1_hearersOf_20 : decode cX1_hearersOf 20 = .ok (.iload_n 2, 1) := by decide +kernel
theorem dX1_hearersOf_21 : decode cX1_hearersOf 21 = .ok (.iload_n 2, 1) := by decide +kernel
theorem dX1_hearersOf_22 : decode cX1_hearersOf 22 = .ok (.aload_n 0, 1) := by decide +kernel
theorem dX1_hearersOf_23 : decode cX1_hearersOf 23 = .ok (.getfield 24, 3) := by decide +kernel
theorem dX1_hearersOf_26 : decode cX1_hearersOf 26 = .ok (.iadd, 1) := by decide +kernel
theorem dX1_hearersOf_27 : decode cX1_hearersOf 27 = .ok (.invokevirtual 108, 3) := by decide +kernel
theorem dX1_hearersOf_30 : decode cX1_hearersOf 30 = .ok (.iadd, 1) := by decide +kernel
theorem dX1_hearersOf_31 : decode cX1_hearersOf 31 = .ok (.ireturn, 1) := by decide +kernel
theorem dX1_higherHeardBy_0 : decode cX1_higherHeardBy 0 = .ok (.aload_n 0, 1) := by decide +kernel
theorem dX1_higherHeardBy_1 : decode cX1_higherHeardBy 1 = .ok (.iload_n 1, 1) := by decide +kernel
theorem dX1_higherHeardBy_2 : decode cX1_higherHeardBy 2 = .ok (.iload_n 2, 1) := by decide +kernel
theorem dX1_higherHeardBy_3 : decode cX1_higherHeardBy 3 = .ok (.invokevirtual 92, 3) := by decide +kernel
theorem dX1_higherHeardBy_6 : decode cX1_higherHeardBy 6 = .ok (.istore_n 3, 1) := by decide +kernel
theorem dX1_higherHeardBy_7 : decode cX1_higherHeardBy 7 = .ok (.aload_n 0, 1) := by decide +kernel
theorem dX1_higherHeardBy_8 : decode cX1_higherHeardBy 8 = .ok (.iload_n 1, 1) := by decide +kernel
theorem dX1_higherHeardBy_9 : decode cX1_higherHeardBy 9 = .ok (.iload_n 2, 1) := by decide +kernel
theorem dX1_higherHeardBy_10 : decode cX1_higherHeardBy 10 = .ok (.aload_n 0, 1) := by decide +kernel
theorem dX1_higherHeardBy_11 : decode cX1_higherHeardBy 11 = .ok (.getfield 24, 3) := by decide +kernel
theorem dX1_higherHeardBy_14 : decode cX1_higherHeardBy 14 = .ok (.isub, 1) := by decide +kernel
theorem dX1_higherHeardBy_15 : decode cX1_higherHeardBy 15 = .ok (.iload_n 2, 1) := by decide +kernel
theorem dX1_higherHeardBy_16 : decode cX1_higherHeardBy 16 = .ok (.iconst 1, 1) := by decide +kernel
theorem dX1_higherHeardBy_17 : decode cX1_higherHeardBy 17 = .ok (.isub, 1) := by decide +kernel
theorem dX1_higherHeardBy_18 : decode cX1_higherHeardBy 18 = .ok (.iload_n 3, 1) := by decide +kernel
theorem dX1_higherHeardBy_19 : decode cX1_higherHeardBy 19 = .ok (.invokevirtual 101, 3) := by decide +kernel
theorem dX1_higherHeardBy_22 : decode cX1_higherHeardBy 22 = .ok (.aload_n 0, 1) := by decide +kernel
theorem dX1_higherHeardBy_23 : decode cX1_higherHeardBy 23 = .ok (.aload_n 0, 1) := by decide +kernel
theorem dX1_higherHeardBy_24 : decode cX1_higherHeardBy 24 = .ok (.iload_n 1, 1) := by decide +kernel
theorem dX1_higherHeardBy_25 : decode cX1_higherHeardBy 25 = .ok (.invokevirtual 111, 3) := by decide +kernel
theorem dX1_higherHeardBy_28 : decode cX1_higherHeardBy 28 = .ok (.iload_n 2, 1) := by decide +kernel
theorem dX1_higherHeardBy_29 : decode cX1_higherHeardBy 29 = .ok (.aload_n 0, 1) := by decide +kernel
theorem dX1_higherHeardBy_30 : decode cX1_higherHeardBy 30 = .ok (.getfield 24, 3) := by decide +kernel
theorem dX1_higherHeardBy_33 : decode cX1_higherHeardBy 33 = .ok (.isub, 1) := by decide +kernel
theorem dX1_higherHeardBy_34 : decode cX1_higherHeardBy 34 = .ok (.iload_n 2, 1) := by decide +kernel
theorem dX1_higherHeardBy_35 : decode cX1_higherHeardBy 35 = .ok (.iload_n 3, 1) := by decide +kernel
theorem dX1_higherHeardBy_36 : decode cX1_higherHeardBy 36 = .ok (.invokevirtual 101, 3) := by decide +kernel
theorem dX1_higherHeardBy_39 : decode cX1_higherHeardBy 39 = .ok (.iadd, 1) := by decide +kernel
theorem dX1_higherHeardBy_40 : decode cX1_higherHeardBy 40 = .ok (.ireturn, 1) := by decide +kernel
theorem dX1_higherBehind_0 : decode cX1_higherBehind 0 = .ok (.aload_n 0, 1) := by decide +kernel
theorem dX1_higherBehind_1 : decode cX1_higherBehind 1 = .ok (.aload_n 0, 1) := by decide +kernel
theorem dX1_higherBehind_2 : decode cX1_higherBehind 2 = .ok (.iload_n 1, 1) := by decide +kernel
theorem dX1_higherBehind_3 : decode cX1_higherBehind 3 = .ok (.invokevirtual 111, 3) := by decide +kernel
theorem dX1_higherBehind_6 : decode cX1_higherBehind 6 = .ok (.iload_n 2, 1) := by decide +kernel
theorem dX1_higherBehind_7 : decode cX1_higherBehind 7 = .ok (.aload_n 0, 1) := by decide +kernel
theorem dX1_higherBehind_8 : decode cX1_higherBehind 8 = .ok (.getfield 24, 3) := by decide +kernel
theorem dX1_higherBehind_11 : decode cX1_higherBehind 11 = .ok (.isub, 1) := by decide +kernel
theorem dX1_higherBehind_12 : decode cX1_higherBehind 12 = .ok (.iload_n 2, 1) := by decide +kernel
theorem dX1_higherBehind_13 : decode cX1_higherBehind 13 = .ok (.iload_n 3, 1) := by decide +kernel
theorem dX1_higherBehind_14 : decode cX1_higherBehind 14 = .ok (.invokevirtual 101, 3) := by decide +kernel
theorem dX1_higherBehind_17 : decode cX1_higherBehind 17 = .ok (.ireturn, 1) := by decide +kernel
theorem dX1_higherByTree_0 : decode cX1_higherByTree 0 = .ok (.aload_n 1, 1) := by decide +kernel
theorem dX1_higherByTree_1 : decode cX1_higherByTree 1 = .ok (.invokevirtual 117, 3) := by decide +kernel
theorem dX1_higherByTree_4 : decode cX1_higherByTree 4 = .ok (.aload_n 0, 1) := by decide +kernel
theorem dX1_higherByTree_5 : decode cX1_higherByTree 5 = .ok (.aload_n 1, 1) := by decide +kernel
theorem dX1_higherByTree_6 : decode cX1_higherByTree 6 = .ok (.iload_n 2, 1) := by decide +kernel
theorem dX1_higherByTree_7 : decode cX1_higherByTree 7 = .ok (.iload_n 3, 1) := by decide +kernel
theorem dX1_higherByTree_8 : decode cX1_higherByTree 8 = .ok (.aload_n 0, 1) := by decide +kernel
theorem dX1_higherByTree_9 : decode cX1_higherByTree 9 = .ok (.getfield 24, 3) := by decide +kernel
theorem dX1_higherByTree_12 : decode cX1_higherByTree 12 = .ok (.isub, 1) := by decide +kernel
theorem dX1_higherByTree_13 : decode cX1_higherByTree 13 = .ok (.iload_n 3, 1) := by decide +kernel
theorem dX1_higherByTree_14 : decode cX1_higherByTree 14 = .ok (.iconst 1, 1) := by decide +kernel
theorem dX1_higherByTree_15 : decode cX1_higherByTree 15 = .ok (.isub, 1) := by decide +kernel
theorem dX1_higherByTree_16 : decode cX1_higherByTree 16 = .ok (.invokevirtual 122, 3) := by decide +kernel
theorem dX1_higherByTree_19 : decode cX1_higherByTree 19 = .ok (.aload_n 0, 1) := by decide +kernel
theorem dX1_higherByTree_20 : decode cX1_higherByTree 20 = .ok (.aload_n 1, 1) := by decide +kernel
theorem dX1_higherByTree_21 : decode cX1_higherByTree 21 = .ok (.aload_n 0, 1) := by decide +kernel
theorem dX1_higherByTree_22 : decode cX1_higherByTree 22 = .ok (.iload_n 2, 1) := by decide +kernel
theorem dX1_higherByTree_23 : decode cX1_higherByTree 23 = .ok (.invokevirtual 111, 3) := by decide +kernel
theorem dX1_higherByTree_26 : decode cX1_higherByTree 26 = .ok (.iload_n 3, 1) := by decide +kernel
theorem dX1_higherByTree_27 : decode cX1_higherByTree 27 = .ok (.aload_n 0, 1) := by decide +kernel
theorem dX1_higherByTree_28 : decode cX1_higherByTree 28 = .ok (.getfield 24, 3) := by decide +kernel
theorem dX1_higherByTree_31 : decode cX1_higherByTree 31 = .ok (.isub, 1) := by decide +kernel
theorem dX1_higherByTree_32 : decode cX1_higherByTree 32 = .ok (.iload_n 3, 1) := by decide +kernel
theorem dX1_higherByTree_33 : decode cX1_higherByTree 33 = .ok (.invokevirtual 122, 3) := by decide +kernel
theorem dX1_higherByTree_36 : decode cX1_higherByTree 36 = .ok (.aload_n 1, 1) := by decide +kernel
theorem dX1_higherByTree_37 : decode cX1_higherByTree 37 = .ok (.aload_n 0, 1) := by decide +kernel
theorem dX1_higherByTree_38 : decode cX1_higherByTree 38 = .ok (.iload_n 2, 1) := by decide +kernel
theorem dX1_higherByTree_39 : decode cX1_higherByTree 39 = .ok (.iload_n 3, 1) := by decide +kernel
theorem dX1_higherByTree_40 : decode cX1_higherByTree 40 = .ok (.invokevirtual 92, 3) := by decide +kernel
theorem dX1_higherByTree_43 : decode cX1_higherByTree 43 = .ok (.invokevirtual 126, 3) := by decide +kernel
theorem dX1_higherByTree_46 : decode cX1_higherByTree 46 = .ok (.ireturn, 1) := by decide +kernel
theorem dX1_singersBetween_0 : decode cX1_singersBetween 0 = .ok (.iconst 0, 1) := by decide +kernel
theorem dX1_singersBetween_1 : decode cX1_singersBetween 1 = .ok (.iload_n 3, 1) := by decide +kernel
theorem dX1_singersBetween_2 : decode cX1_singersBetween 2 = .ok (.aload_n 0, 1) := by decide +kernel
theorem dX1_singersBetween_3 : decode cX1_singersBetween 3 = .ok (.iload_n 1, 1) := by decide +kernel
theorem dX1_singersBetween_4 : decode cX1_singersBetween 4 = .ok (.invokevirtual 56, 3) := by decide +kernel
theorem dX1_singersBetween_7 : decode cX1_singersBetween 7 = .ok (.iconst 1, 1) := by decide +kernel
theorem dX1_singersBetween_8 : decode cX1_singersBetween 8 = .ok (.isub, 1) := by decide +kernel
theorem dX1_singersBetween_9 : decode cX1_singersBetween 9 = .ok (.invokestatic 44, 3) := by decide +kernel
theorem dX1_singersBetween_12 : decode cX1_singersBetween 12 = .ok (.iload_n 2, 1) := by decide +kernel
theorem dX1_singersBetween_13 : decode cX1_singersBetween 13 = .ok (.iconst 0, 1) := by decide +kernel
theorem dX1_singersBetween_14 : decode cX1_singersBetween 14 = .ok (.invokestatic 98, 3) := by decide +kernel
theorem dX1_singersBetween_17 : decode cX1_singersBetween 17 = .ok (.isub, 1) := by decide +kernel
theorem dX1_singersBetween_18 : decode cX1_singersBetween 18 = .ok (.iconst 1, 1) := by decide +kernel
theorem dX1_singersBetween_19 : decode cX1_singersBetween 19 = .ok (.iadd, 1) := by decide +kernel
theorem dX1_singersBetween_20 : decode cX1_singersBetween 20 = .ok (.invokestatic 98, 3) := by decide +kernel
theorem dX1_singersBetween_23 : decode cX1_singersBetween 23 = .ok (.ireturn, 1) := by decide +kernel
theorem dX1_higherBetween_0 : decode cX1_higherBetween 0 = .ok (.iconst 0, 1) := by decide +kernel
theorem dX1_higherBetween_1 : decode cX1_higherBetween 1 = .ok (.istore 5, 2) := by decide +kernel
theorem dX1_higherBetween_3 : decode cX1_higherBetween 3 = .ok (.iload_n 3, 1) := by decide +kernel
theorem dX1_higherBetween_4 : decode cX1_higherBetween 4 = .ok (.aload_n 0, 1) := by decide +kernel
theorem dX1_higherBetween_5 : decode cX1_higherBetween 5 = .ok (.iload_n 1, 1) := by decide +kernel
theorem dX1_higherBetween_6 : decode cX1_higherBetween 6 = .ok (.invokevirtual 56, 3) := by decide +kernel
theorem dX1_higherBetween_9 : decode cX1_higherBetween 9 = .ok (.iconst 1, 1) := by decide +kernel
theorem dX1_higherBetween_10 : decode cX1_higherBetween 10 = .ok (.isub, 1) := by decide +kernel
theorem dX1_higherBetween_11 : decode cX1_higherBetween 11 = .ok (.invokestatic 44, 3) := by decide +kernel
theorem dX1_higherBetween_14 : decode cX1_higherBetween 14 = .ok (.istore 6, 2) := by decide +kernel
theorem dX1_higherBetween_16 : decode cX1_higherBetween 16 = .ok (.iload_n 2, 1) := by decide +kernel
theorem dX1_higherBetween_17 : decode cX1_higherBetween 17 = .ok (.iconst 0, 1) := by decide +kernel
theorem dX1_higherBetween_18 : decode cX1_higherBetween 18 = .ok (.invokestatic 98, 3) := by decide +kernel
theorem dX1_higherBetween_21 : decode cX1_higherBetween 21 = .ok (.istore 7, 2) := by decide +kernel
theorem dX1_higherBetween_23 : decode cX1_higherBetween 23 = .ok (.iload 7, 2) := by decide +kernel
theorem dX1_higherBetween_25 : decode cX1_higherBetween 25 = .ok (.iload 6, 2) := by decide +kernel
theorem dX1_higherBetween_27 : decode cX1_higherBetween 27 = .ok (.if_icmp .gt 31, 3) := by decide +kernel
theorem dX1_higherBetween_30 : decode cX1_higherBetween 30 = .ok (.aload_n 0, 1) := by decide +kernel
theorem dX1_higherBetween_31 : decode cX1_higherBetween 31 = .ok (.getfield 18, 3) := by decide +kernel
theorem dX1_higherBetween_34 : decode cX1_higherBetween 34 = .ok (.bipush 6, 2) := by decide +kernel
theorem dX1_higherBetween_36 : decode cX1_higherBetween 36 = .ok (.iload_n 1, 1) := by decide +kernel
theorem dX1_higherBetween_37 : decode cX1_higherBetween 37 = .ok (.imul, 1) := by decide +kernel
theorem dX1_higherBetween_38 : decode cX1_higherBetween 38 = .ok (.iload 7, 2) := by decide +kernel
theorem dX1_higherBetween_40 : decode cX1_higherBetween 40 = .ok (.iadd, 1) := by decide +kernel
theorem dX1_higherBetween_41 : decode cX1_higherBetween 41 = .ok (.invokestatic 63, 3) := by decide +kernel
theorem dX1_higherBetween_44 : decode cX1_higherBetween 44 = .ok (.iload 4, 2) := by decide +kernel
theorem dX1_higherBetween_46 : decode cX1_higherBetween 46 = .ok (.if_icmp .le 6, 3) := by decide +kernel
theorem dX1_higherBetween_49 : decode cX1_higherBetween 49 = .ok (.iinc 5 1, 3) := by decide +kernel
theorem dX1_higherBetween_52 : decode cX1_higherBetween 52 = .ok (.iinc 7 1, 3) := by decide +kernel
theorem dX1_higherBetween_55 : decode cX1_higherBetween 55 = .ok (.goto (-32), 3) := by decide +kernel
theorem dX1_higherBetween_58 : decode cX1_higherBetween 58 = .ok (.iload 5, 2) := by decide +kernel
theorem dX1_higherBetween_60 : decode cX1_higherBetween 60 = .ok (.ireturn, 1) := by decide +kernel
theorem dX1_putBetween_0 : decode cX1_putBetween 0 = .ok (.iload 4, 2) := by decide +kernel
theorem dX1_putBetween_2 : decode cX1_putBetween 2 = .ok (.aload_n 0, 1) := by decide +kernel
theorem dX1_putBetween_3 : decode cX1_putBetween 3 = .ok (.iload_n 2, 1) := by decide +kernel
theorem dX1_putBetween_4 : decode cX1_putBetween 4 = .ok (.invokevirtual 56, 3) := by decide +kernel
theorem dX1_putBetween_7 : decode cX1_putBetween 7 = .ok (.iconst 1, 1) := by decide +kernel
theorem dX1_putBetween_8 : decode cX1_putBetween 8 = .ok (.isub, 1) := by decide +kernel
theorem dX1_putBetween_9 : decode cX1_putBetween 9 = .ok (.invokestatic 44, 3) := by decide +kernel
theorem dX1_putBetween_12 : decode cX1_putBetween 12 = .ok (.istore 5, 2) := by decide +kernel
theorem dX1_putBetween_14 : decode cX1_putBetween 14 = .ok (.iload_n 3, 1) := by decide +kernel
theorem dX1_putBetween_15 : decode cX1_putBetween 15 = .ok (.iconst 0, 1) := by decide +kernel
theorem dX1_putBetween_16 : decode cX1_putBetween 16 = .ok (.invokestatic 98, 3) := by decide +kernel
theorem dX1_putBetween_19 : decode cX1_putBetween 19 = .ok (.istore 6, 2) := by decide +kernel
theorem dX1_putBetween_21 : decode cX1_putBetween 21 = .ok (.iload 6, 2) := by decide +kernel
theorem dX1_putBetween_23 : decode cX1_putBetween 23 = .ok (.iload 5, 2) := by decide +kernel
theorem dX1_putBetween_25 : decode cX1_putBetween 25 = .ok (.if_icmp .gt 20, 3) := by decide +kernel
theorem dX1_putBetween_28 : decode cX1_putBetween 28 = .ok (.aload_n 1, 1) := by decide +kernel
theorem dX1_putBetween_29 : decode cX1_putBetween 29 = .ok (.aload_n 0, 1) := by decide +kernel
theorem dX1_putBetween_30 : decode cX1_putBetween 30 = .ok (.iload_n 2, 1) := by decide +kernel
theorem dX1_putBetween_31 : decode cX1_putBetween 31 = .ok (.iload 6, 2) := by decide +kernel
theorem dX1_putBetween_33 : decode cX1_putBetween 33 = .ok (.invokevirtual 92, 3) := by decide +kernel
theorem dX1_putBetween_36 : decode cX1_putBetween 36 = .ok (.invokevirtual 129, 3) := by decide +kernel
theorem dX1_putBetween_39 : decode cX1_putBetween 39 = .ok (.iinc 6 1, 3) := by decide +kernel
theorem dX1_putBetween_42 : decode cX1_putBetween 42 = .ok (.goto (-21), 3) := by decide +kernel
theorem dX1_putBetween_45 : decode cX1_putBetween 45 = .ok (.return_, 1) := by decide +kernel
theorem dX1_oddIn_0 : decode cX1_oddIn 0 = .ok (.iconst 0, 1) := by decide +kernel
theorem dX1_oddIn_1 : decode cX1_oddIn 1 = .ok (.istore_n 2, 1) := by decide +kernel
theorem dX1_oddIn_2 : decode cX1_oddIn 2 = .ok (.iconst 0, 1) := by decide +kernel
theorem dX1_oddIn_3 : decode cX1_oddIn 3 = .ok (.istore_n 3, 1) := by decide +kernel
theorem dX1_oddIn_4 : decode cX1_oddIn 4 = .ok (.iload_n 3, 1) := by decide +kernel
theorem dX1_oddIn_5 : decode cX1_oddIn 5 = .ok (.aload_n 0, 1) := by decide +kernel
theorem dX1_oddIn_6 : decode cX1_oddIn 6 = .ok (.iload_n 1, 1) := by decide +kernel
theorem dX1_oddIn_7 : decode cX1_oddIn 7 = .ok (.invokevirtual 56, 3) := by decide +kernel
theorem dX1_oddIn_10 : decode cX1_oddIn 10 = .ok (.if_icmp .ge 20, 3) := by decide +kernel
theorem dX1_oddIn_13 : decode cX1_oddIn 13 = .ok (.iload_n 2, 1) := by decide +kernel
theorem dX1_oddIn_14 : decode cX1_oddIn 14 = .ok (.aload_n 0, 1) := by decide +kernel
theorem dX1_oddIn_15 : decode cX1_oddIn 15 = .ok (.iload_n 1, 1) := by decide +kernel
theorem dX1_oddIn_16 : decode cX1_oddIn 16 = .ok (.iload_n 3, 1) := by decide +kernel
theorem dX1_oddIn_17 : decode cX1_oddIn 17 = .ok (.invokevirtual 133, 3) := by decide +kernel
theorem dX1_oddIn_20 : decode cX1_oddIn 20 = .ok (.iconst 1, 1) := by decide +kernel
theorem dX1_oddIn_21 : decode cX1_oddIn 21 = .ok (.iand, 1) := by decide +kernel
theorem dX1_oddIn_22 : decode cX1_oddIn 22 = .ok (.iadd, 1) := by decide +kernel
theorem dX1_oddIn_23 : decode cX1_oddIn 23 = .ok (.istore_n 2, 1) := by decide +kernel
theorem dX1_oddIn_24 : decode cX1_oddIn 24 = .ok (.iinc 3 1, 3) := by decide +kernel
theorem dX1_oddIn_27 : decode cX1_oddIn 27 = .ok (.goto (-23), 3) := by decide +kernel
theorem dX1_oddIn_30 : decode cX1_oddIn 30 = .ok (.iload_n 2, 1) := by decide +kernel
theorem dX1_oddIn_31 : decode cX1_oddIn 31 = .ok (.ireturn, 1) := by decide +kernel
theorem dX1_oddOfAll_0 : decode cX1_oddOfAll 0 = .ok (.iconst 0, 1) := by decide +kernel
theorem dX1_oddOfAll_1 : decode cX1_oddOfAll 1 = .ok (.istore_n 1, 1) := by decide +kernel
theorem dX1_oddOfAll_2 : decode cX1_oddOfAll 2 = .ok (.iconst 0, 1) := by decide +kernel
theorem dX1_oddOfAll_3 : decode cX1_oddOfAll 3 = .ok (.istore_n 2, 1) := by decide +kernel
theorem dX1_oddOfAll_4 : decode cX1_oddOfAll 4 = .ok (.iload_n 2, 1) := by decide +kernel
theorem dX1_oddOfAll_5 : decode cX1_oddOfAll 5 = .ok (.iconst 4, 1) := by decide +kernel
theorem dX1_oddOfAll_6 : decode cX1_oddOfAll 6 = .ok (.if_icmp .ge 17, 3) := by decide +kernel
theorem dX1_oddOfAll_9 : decode cX1_oddOfAll 9 = .ok (.iload_n 1, 1) := by decide +kernel
theorem dX1_oddOfAll_10 : decode cX1_oddOfAll 10 = .ok (.aload_n 0, 1) := by decide +kernel
theorem dX1_oddOfAll_11 : decode cX1_oddOfAll 11 = .ok (.iload_n 2, 1) := by decide +kernel
theorem dX1_oddOfAll_12 : decode cX1_oddOfAll 12 = .ok (.invokevirtual 136, 3) := by decide +kernel
theorem dX1_oddOfAll_15 : decode cX1_oddOfAll 15 = .ok (.iadd, 1) := by decide +kernel
theorem dX1_oddOfAll_16 : decode cX1_oddOfAll 16 = .ok (.istore_n 1, 1) := by decide +kernel
theorem dX1_oddOfAll_17 : decode cX1_oddOfAll 17 = .ok (.iinc 2 1, 3) := by decide +kernel
theorem dX1_oddOfAll_20 : decode cX1_oddOfAll 20 = .ok (.goto (-16), 3) := by decide +kernel
theorem dX1_oddOfAll_23 : decode cX1_oddOfAll 23 = .ok (.iload_n 1, 1) := by decide +kernel
theorem dX1_oddOfAll_24 : decode cX1_oddOfAll 24 = .ok (.ireturn, 1) := by decide +kernel
theorem dX1_writtenLength_0 : decode cX1_writtenLength 0 = .ok (.iconst 0, 1) := by decide +kernel
theorem dX1_writtenLength_1 : decode cX1_writtenLength 1 = .ok (.iconst 5, 1) := by decide +kernel
theorem dX1_writtenLength_2 : decode cX1_writtenLength 2 = .ok (.aload_n 0, 1) := by decide +kernel
theorem dX1_writtenLength_3 : decode cX1_writtenLength 3 = .ok (.iload_n 1, 1) := by decide +kernel
theorem dX1_writtenLength_4 : decode cX1_writtenLength 4 = .ok (.invokevirtual 56, 3) := by decide +kernel
theorem dX1_writtenLength_7 : decode cX1_writtenLength 7 = .ok (.imul, 1) := by decide +kernel
theorem dX1_writtenLength_8 : decode cX1_writtenLength 8 = .ok (.iconst 1, 1) := by decide +kernel
theorem dX1_writtenLength_9 : decode cX1_writtenLength 9 = .ok (.isub, 1) := by decide +kernel
theorem dX1_writtenLength_10 : decode cX1_writtenLength 10 = .ok (.invokestatic 98, 3) := by decide +kernel
theorem dX1_writtenLength_13 : decode cX1_writtenLength 13 = .ok (.ireturn, 1) := by decide +kernel
theorem dX1_writtenCode_0 : decode cX1_writtenCode 0 = .ok (.iload_n 2, 1) := by decide +kernel
theorem dX1_writtenCode_1 : decode cX1_writtenCode 1 = .ok (.ifCond .lt 12, 3) := by decide +kernel
theorem dX1_writtenCode_4 : decode cX1_writtenCode 4 = .ok (.iload_n 2, 1) := by decide +kernel
theorem dX1_writtenCode_5 : decode cX1_writtenCode 5 = .ok (.aload_n 0, 1) := by decide +kernel
theorem dX1_writtenCode_6 : decode cX1_writtenCode 6 = .ok (.iload_n 1, 1) := by decide +kernel
theorem dX1_writtenCode_7 : decode cX1_writtenCode 7 = .ok (.invokevirtual 139, 3) := by decide +kernel
theorem dX1_writtenCode_10 : decode cX1_writtenCode 10 = .ok (.if_icmp .lt 5, 3) := by decide +kernel
theorem dX1_writtenCode_13 : decode cX1_writtenCode 13 = .ok (.iconst (-1), 1) := by decide +kernel
theorem dX1_writtenCode_14 : decode cX1_writtenCode 14 = .ok (.ireturn, 1) := by decide +kernel
theorem dX1_writtenCode_15 : decode cX1_writtenCode 15 = .ok (.iload_n 2, 1) := by decide +kernel
theorem dX1_writtenCode_16 : decode cX1_writtenCode 16 = .ok (.iconst 5, 1) := by decide +kernel
theorem dX1_writtenCode_17 : decode cX1_writtenCode 17 = .ok (.idiv, 1) := by decide +kernel
theorem dX1_writtenCode_18 : decode cX1_writtenCode 18 = .ok (.istore_n 3, 1) := by decide +kernel
theorem dX1_writtenCode_19 : decode cX1_writtenCode 19 = .ok (.aload_n 0, 1) := by decide +kernel
theorem dX1_writtenCode_20 : decode cX1_writtenCode 20 = .ok (.iload_n 1, 1) := by decide +kernel
theorem dX1_writtenCode_21 : decode cX1_writtenCode 21 = .ok (.iload_n 3, 1) := by decide +kernel
theorem dX1_writtenCode_22 : decode cX1_writtenCode 22 = .ok (.invokevirtual 92, 3) := by decide +kernel
theorem dX1_writtenCode_25 : decode cX1_writtenCode 25 = .ok (.istore 4, 2) := by decide +kernel
theorem dX1_writtenCode_27 : decode cX1_writtenCode 27 = .ok (.iload_n 2, 1) := by decide +kernel
theorem dX1_writtenCode_28 : decode cX1_writtenCode 28 = .ok (.iconst 5, 1) := by decide +kernel
theorem dX1_writtenCode_29 : decode cX1_writtenCode 29 = .ok (.irem, 1) := by decide +kernel
theorem dX1_writtenCode_30 : decode cX1_writtenCode 30 = .ok (.tableswitch 70 0 3 #[30, 39, 51, 60], 30) := by decide +kernel
theorem dX1_writtenCode_60 : decode cX1_writtenCode 60 = .ok (.bipush 48, 2) := by decide +kernel
theorem dX1_writtenCode_62 : decode cX1_writtenCode 62 = .ok (.iload 4, 2) := by decide +kernel
theorem dX1_writtenCode_64 : decode cX1_writtenCode 64 = .ok (.bipush 100, 2) := by decide +kernel
theorem dX1_writtenCode_66 : decode cX1_writtenCode 66 = .ok (.idiv, 1) := by decide +kernel
theorem dX1_writtenCode_67 : decode cX1_writtenCode 67 = .ok (.iadd, 1) := by decide +kernel
theorem dX1_writtenCode_68 : decode cX1_writtenCode 68 = .ok (.ireturn, 1) := by decide +kernel
theorem dX1_writtenCode_69 : decode cX1_writtenCode 69 = .ok (.bipush 48, 2) := by decide +kernel
theorem dX1_writtenCode_71 : decode cX1_writtenCode 71 = .ok (.iload 4, 2) := by decide +kernel
theorem dX1_writtenCode_73 : decode cX1_writtenCode 73 = .ok (.bipush 10, 2) := by decide +kernel
theorem dX1_writtenCode_75 : decode cX1_writtenCode 75 = .ok (.idiv, 1) := by decide +kernel
theorem dX1_writtenCode_76 : decode cX1_writtenCode 76 = .ok (.bipush 10, 2) := by decide +kernel
theorem dX1_writtenCode_78 : decode cX1_writtenCode 78 = .ok (.irem, 1) := by decide +kernel
theorem dX1_writtenCode_79 : decode cX1_writtenCode 79 = .ok (.iadd, 1) := by decide +kernel
theorem dX1_writtenCode_80 : decode cX1_writtenCode 80 = .ok (.ireturn, 1) := by decide +kernel
theorem dX1_writtenCode_81 : decode cX1_writtenCode 81 = .ok (.bipush 48, 2) := by decide +kernel
theorem dX1_writtenCode_83 : decode cX1_writtenCode 83 = .ok (.iload 4, 2) := by decide +kernel
theorem dX1_writtenCode_85 : decode cX1_writtenCode 85 = .ok (.bipush 10, 2) := by decide +kernel
theorem dX1_writtenCode_87 : decode cX1_writtenCode 87 = .ok (.irem, 1) := by decide +kernel
theorem dX1_writtenCode_88 : decode cX1_writtenCode 88 = .ok (.iadd, 1) := by decide +kernel
theorem dX1_writtenCode_89 : decode cX1_writtenCode 89 = .ok (.ireturn, 1) := by decide +kernel
theorem dX1_writtenCode_90 : decode cX1_writtenCode 90 = .ok (.aload_n 0, 1) := by decide +kernel
theorem dX1_writtenCode_91 : decode cX1_writtenCode 91 = .ok (.iload_n 1, 1) := by decide +kernel
theorem dX1_writtenCode_92 : decode cX1_writtenCode 92 = .ok (.iload_n 3, 1) := by decide +kernel
theorem dX1_writtenCode_93 : decode cX1_writtenCode 93 = .ok (.invokevirtual 95, 3) := by decide +kernel
theorem dX1_writtenCode_96 : decode cX1_writtenCode 96 = .ok (.invokestatic 142, 3) := by decide +kernel
theorem dX1_writtenCode_99 : decode cX1_writtenCode 99 = .ok (.ireturn, 1) := by decide +kernel
theorem dX1_writtenCode_100 : decode cX1_writtenCode 100 = .ok (.bipush 32, 2) := by decide +kernel
theorem dX1_writtenCode_102 : decode cX1_writtenCode 102 = .ok (.ireturn, 1) := by decide +kernel
theorem dX1_letterOf_0 : decode cX1_letterOf 0 = .ok (.iload_n 0, 1) := by decide +kernel
theorem dX1_letterOf_1 : decode cX1_letterOf 1 = .ok (.ifCond .lt 21, 3) := by decide +kernel
theorem dX1_letterOf_4 : decode cX1_letterOf 4 = .ok (.iload_n 0, 1) := by decide +kernel
theorem dX1_letterOf_5 : decode cX1_letterOf 5 = .ok (.ldc 145, 2) := by decide +kernel
theorem dX1_letterOf_7 : decode cX1_letterOf 7 = .ok (.invokevirtual 147, 3) := by decide +kernel
theorem dX1_letterOf_10 : decode cX1_letterOf 10 = .ok (.if_icmp .ge 12, 3) := by decide +kernel
theorem dX1_letterOf_13 : decode cX1_letterOf 13 = .ok (.ldc 145, 2) := by decide +kernel
theorem dX1_letterOf_15 : decode cX1_letterOf 15 = .ok (.iload_n 0, 1) := by decide +kernel
theorem dX1_letterOf_16 : decode cX1_letterOf 16 = .ok (.invokevirtual 153, 3) := by decide +kernel
theorem dX1_letterOf_19 : decode cX1_letterOf 19 = .ok (.goto 4, 3) := by decide +kernel
theorem dX1_letterOf_22 : decode cX1_letterOf 22 = .ok (.iconst (-1), 1) := by decide +kernel
theorem dX1_letterOf_23 : decode cX1_letterOf 23 = .ok (.ireturn, 1) := by decide +kernel
theorem dX2_init_0 : decode cX2_init 0 = .ok (.aload_n 0, 1) := by decide +kernel
theorem dX2_init_1 : decode cX2_init 1 = .ok (.invokespecial 3, 3) := by decide +kernel
theorem dX2_init_4 : decode cX2_init 4 = .ok (.aload_n 0, 1) := by decide +kernel
theorem dX2_init_5 : decode cX2_init 5 = .ok (.bipush 12, 2) := by decide +kernel
theorem dX2_init_7 : decode cX2_init 7 = .ok (.anewarray 9, 3) := by decide +kernel
theorem dX2_init_10 : decode cX2_init 10 = .ok (.putfield 11, 3) := by decide +kernel
theorem dX2_init_13 : decode cX2_init 13 = .ok (.iconst 0, 1) := by decide +kernel
theorem dX2_init_14 : decode cX2_init 14 = .ok (.istore_n 1, 1) := by decide +kernel
theorem dX2_init_15 : decode cX2_init 15 = .ok (.iload_n 1, 1) := by decide +kernel
theorem dX2_init_16 : decode cX2_init 16 = .ok (.aload_n 0, 1) := by decide +kernel
theorem dX2_init_17 : decode cX2_init 17 = .ok (.getfield 11, 3) := by decide +kernel
theorem dX2_init_20 : decode cX2_init 20 = .ok (.arraylength, 1) := by decide +kernel
theorem dX2_init_21 : decode cX2_init 21 = .ok (.if_icmp .ge 22, 3) := by decide +kernel
theorem dX2_init_24 : decode cX2_init 24 = .ok (.aload_n 0, 1) := by decide +kernel
theorem dX2_init_25 : decode cX2_init 25 = .ok (.getfield 11, 3) := by decide +kernel
theorem dX2_init_28 : decode cX2_init 28 = .ok (.iload_n 1, 1) := by decide +kernel
theorem dX2_init_29 : decode cX2_init 29 = .ok (.new 9, 3) := by decide +kernel
theorem dX2_init_32 : decode cX2_init 32 = .ok (.dup, 1) := by decide +kernel
theorem dX2_init_33 : decode cX2_init 33 = .ok (.invokespecial 17, 3) := by decide +kernel
theorem dX2_init_36 : decode cX2_init 36 = .ok (.aastore, 1) := by decide +kernel
theorem dX2_init_37 : decode cX2_init 37 = .ok (.iinc 1 1, 3) := by decide +kernel
theorem dX2_init_40 : decode cX2_init 40 = .ok (.goto (-25), 3) := by decide +kernel
theorem dX2_init_43 : decode cX2_init 43 = .ok (.return_, 1) := by decide +kernel
theorem dX2_fell_0 : decode cX2_fell 0 = .ok (.aload_n 0, 1) := by decide +kernel
theorem dX2_fell_1 : decode cX2_fell 1 = .ok (.aconst_null, 1) := by decide +kernel
theorem dX2_fell_2 : decode cX2_fell 2 = .ok (.putfield 18, 3) := by decide +kernel
theorem dX2_fell_5 : decode cX2_fell 5 = .ok (.aload_n 0, 1) := by decide +kernel
theorem dX2_fell_6 : decode cX2_fell 6 = .ok (.iconst 0, 1) := by decide +kernel
theorem dX2_fell_7 : decode cX2_fell 7 = .ok (.putfield 22, 3) := by decide +kernel
theorem dX2_fell_10 : decode cX2_fell 10 = .ok (.return_, 1) := by decide +kernel
theorem dX2_put_0 : decode cX2_put 0 = .ok (.aconst_null, 1) := by decide +kernel
theorem dX2_put_1 : decode cX2_put 1 = .ok (.astore_n 2, 1) := by decide +kernel
theorem dX2_put_2 : decode cX2_put 2 = .ok (.aload_n 0, 1) := by decide +kernel
theorem dX2_put_3 : decode cX2_put 3 = .ok (.getfield 18, 3) := by decide +kernel
theorem dX2_put_6 : decode cX2_put 6 = .ok (.astore_n 3, 1) := by decide +kernel
theorem dX2_put_7 : decode cX2_put 7 = .ok (.iconst 0, 1) := by decide +kernel
theorem dX2_put_8 : decode cX2_put 8 = .ok (.istore 4, 2) := by decide +kernel
theorem dX2_put_10 : decode cX2_put 10 = .ok (.iload 4, 2) := by decide +kernel
theorem dX2_put_12 : decode cX2_put 12 = .ok (.bipush 12, 2) := by decide +kernel
theorem dX2_put_14 : decode cX2_put 14 = .ok (.if_icmp .ge 54, 3) := by decide +kernel
theorem dX2_put_17 : decode cX2_put 17 = .ok (.aload_n 3, 1) := by decide +kernel
theorem dX2_put_18 : decode cX2_put 18 = .ok (.ifnull 50, 3) := by decide +kernel
theorem dX2_put_21 : decode cX2_put 21 = .ok (.aload_n 3, 1) := by decide +kernel
theorem dX2_put_22 : decode cX2_put 22 = .ok (.getfield 26, 3) := by decide +kernel
theorem dX2_put_25 : decode cX2_put 25 = .ok (.iload_n 1, 1) := by decide +kernel
theorem dX2_put_26 : decode cX2_put 26 = .ok (.if_icmp .ne 14, 3) := by decide +kernel
theorem dX2_put_29 : decode cX2_put 29 = .ok (.aload_n 3, 1) := by decide +kernel
theorem dX2_put_30 : decode cX2_put 30 = .ok (.dup, 1) := by decide +kernel
theorem dX2_put_31 : decode cX2_put 31 = .ok (.getfield 29, 3) := by decide +kernel
theorem dX2_put_34 : decode cX2_put 34 = .ok (.iconst 1, 1) := by decide +kernel
theorem dX2_put_35 : decode cX2_put 35 = .ok (.iadd, 1) := by decide +kernel
theorem dX2_put_36 : decode cX2_put 36 = .ok (.putfield 29, 3) := by decide +kernel
theorem dX2_put_39 : decode cX2_put 39 = .ok (.return_, 1) := by decide +kernel
theorem dX2_put_40 : decode cX2_put 40 = .ok (.aload_n 3, 1) := by decide +kernel
theorem dX2_put_41 : decode cX2_put 41 = .ok (.astore_n 2, 1) := by decide +kernel
theorem dX2_put_42 : decode cX2_put 42 = .ok (.iload_n 1, 1) := by decide +kernel
theorem dX2_put_43 : decode cX2_put 43 = .ok (.aload_n 3, 1) := by decide +kernel
theorem dX2_put_44 : decode cX2_put 44 = .ok (.getfield 26, 3) := by decide +kernel
theorem dX2_put_47 : decode cX2_put 47 = .ok (.if_icmp .le 10, 3) := by decide +kernel
theorem dX2_put_50 : decode cX2_put 50 = .ok (.aload_n 3, 1) := by decide +kernel
theorem dX2_put_51 : decode cX2_put 51 = .ok (.getfield 32, 3) := by decide +kernel
theorem dX2_put_54 : decode cX2_put 54 = .ok (.goto 7, 3) := by decide +kernel
theorem dX2_put_57 : decode cX2_put 57 = .ok (.aload_n 3, 1) := by decide +kernel
theorem dX2_put_58 : decode cX2_put 58 = .ok (.getfield 35, 3) := by decide +kernel
theorem dX2_put_61 : decode cX2_put 61 = .ok (.astore_n 3, 1) := by decide +kernel
theorem dX2_put_62 : decode cX2_put 62 = .ok (.iinc 4 1, 3) := by decide +kernel
theorem dX2_put_65 : decode cX2_put 65 = .ok (.goto (-55), 3) := by decide +kernel
theorem dX2_put_68 : decode cX2_put 68 = .ok (.aload_n 0, 1) := by decide +kernel
theorem dX2_put_69 : decode cX2_put 69 = .ok (.iload_n 1, 1) := by decide +kernel
theorem dX2_put_70 : decode cX2_put 70 = .ok (.invokevirtual 38, 3) := by decide +kernel
theorem dX2_put_73 : decode cX2_put 73 = .ok (.astore 4, 2) := by decide +kernel
theorem dX2_put_75 : decode cX2_put 75 = .ok (.aload_n 2, 1) := by decide +kernel
theorem dX2_put_76 : decode cX2_put 76 = .ok (.ifnonnull 12, 3) := by decide +kernel
theorem dX2_put_79 : decode cX2_put 79 = .ok (.aload_n 0, 1) := by decide +kernel
theorem dX2_put_80 : decode cX2_put 80 = .ok (.aload 4, 2) := by decide +kernel
theorem dX2_put_82 : decode cX2_put 82 = .ok (.putfield 18, 3) := by decide +kernel
theorem dX2_put_85 : decode cX2_put 85 = .ok (.goto 26, 3) := by decide +kernel
theorem dX2_put_88 : decode cX2_put 88 = .ok (.iload_n 1, 1) := by decide +kernel
theorem dX2_put_89 : decode cX2_put 89 = .ok (.aload_n 2, 1) := by decide +kernel
theorem dX2_put_90 : decode cX2_put 90 = .ok (.getfield 26, 3) := by decide +kernel
theorem dX2_put_93 : decode cX2_put 93 = .ok (.if_icmp .le 12, 3) := by decide +kernel
theorem dX2_put_96 : decode cX2_put 96 = .ok (.aload_n 2, 1) := by decide +kernel
theorem dX2_put_97 : decode cX2_put 97 = .ok (.aload 4, 2) := by decide +kernel
theorem dX2_put_99 : decode cX2_put 99 = .ok (.putfield 32, 3) := by decide +kernel
theorem dX2_put_102 : decode cX2_put 102 = .ok (.goto 9, 3) := by decide +kernel
theorem dX2_put_105 : decode cX2_put 105 = .ok (.aload_n 2, 1) := by decide +kernel
theorem dX2_put_106 : decode cX2_put 106 = .ok (.aload 4, 2) := by decide +kernel
theorem dX2_put_108 : decode cX2_put 108 = .ok (.putfield 35, 3) := by decide +kernel
theorem dX2_put_111 : decode cX2_put 111 = .ok (.return_, 1) := by decide +kernel
theorem dX2_freshNode_0 : decode cX2_freshNode 0 = .ok (.aload_n 0, 1) := by decide +kernel
theorem dX2_freshNode_1 : decode cX2_freshNode 1 = .ok (.getfield 22, 3) := by decide +kernel
theorem dX2_freshNode_4 : decode cX2_freshNode 4 = .ok (.ifCond .lt 27, 3) := by decide +kernel
theorem dX2_freshNode_7 : decode cX2_freshNode 7 = .ok (.aload_n 0, 1) := by decide +kernel
theorem dX2_freshNode_8 : decode cX2_freshNode 8 = .ok (.getfield 22, 3) := by decide +kernel
theorem dX2_freshNode_11 : decode cX2_freshNode 11 = .ok (.aload_n 0, 1) := by decide +kernel
theorem dX2_freshNode_12 : decode cX2_freshNode 12 = .ok (.getfield 11, 3) := by decide +kernel
theorem dX2_freshNode_15 : decode cX2_freshNode 15 = .ok (.arraylength, 1) := by decide +kernel
theorem dX2_freshNode_16 : decode cX2_freshNode 16 = .ok (.if_icmp .ge 15, 3) := by decide +kernel
theorem dX2_freshNode_19 : decode cX2_freshNode 19 = .ok (.aload_n 0, 1) := by decide +kernel
theorem dX2_freshNode_20 : decode cX2_freshNode 20 = .ok (.getfield 11, 3) := by decide +kernel
theorem dX2_freshNode_23 : decode cX2_freshNode 23 = .ok (.aload_n 0, 1) := by decide +kernel
theorem dX2_freshNode_24 : decode cX2_freshNode 24 = .ok (.getfield 22, 3) := by decide +kernel
theorem dX2_freshNode_27 : decode cX2_freshNode 27 = .ok (.aaload, 1) := by decide +kernel
theorem dX2_freshNode_28 : decode cX2_freshNode 28 = .ok (.goto 4, 3) := by decide +kernel
theorem dX2_freshNode_31 : decode cX2_freshNode 31 = .ok (.aconst_null, 1) := by decide +kernel
theorem dX2_freshNode_32 : decode cX2_freshNode 32 = .ok (.astore_n 2, 1) := by decide +kernel
theorem dX2_freshNode_33 : decode cX2_freshNode 33 = .ok (.aload_n 2, 1) := by decide +kernel
theorem dX2_freshNode_34 : decode cX2_freshNode 34 = .ok (.ifnull 33, 3) := by decide +kernel
theorem dX2_freshNode_37 : decode cX2_freshNode 37 = .ok (.aload_n 0, 1) := by decide +kernel
theorem dX2_freshNode_38 : decode cX2_freshNode 38 = .ok (.dup, 1) := by decide +kernel
theorem dX2_freshNode_39 : decode cX2_freshNode 39 = .ok (.getfield 22, 3) := by decide +kernel
theorem dX2_freshNode_42 : decode cX2_freshNode 42 = .ok (.iconst 1, 1) := by decide +kernel
theorem dX2_freshNode_43 : decode cX2_freshNode 43 = .ok (.iadd, 1) := by decide +kernel
theorem dX2_freshNode_44 : decode cX2_freshNode 44 = .ok (.putfield 22, 3) := by decide +kernel
theorem dX2_freshNode_47 : decode cX2_freshNode 47 = .ok (.aload_n 2, 1) := by decide +kernel
theorem dX2_freshNode_48 : decode cX2_freshNode 48 = .ok (.iload_n 1, 1) := by decide +kernel
theorem dX2_freshNode_49 : decode cX2_freshNode 49 = .ok (.putfield 26, 3) := by decide +kernel
theorem dX2_freshNode_52 : decode cX2_freshNode 52 = .ok (.aload_n 2, 1) := by decide +kernel
theorem dX2_freshNode_53 : decode cX2_freshNode 53 = .ok (.iconst 1, 1) := by decide +kernel
theorem dX2_freshNode_54 : decode cX2_freshNode 54 = .ok (.putfield 29, 3) := by decide +kernel
theorem dX2_freshNode_57 : decode cX2_freshNode 57 = .ok (.aload_n 2, 1) := by decide +kernel
theorem dX2_freshNode_58 : decode cX2_freshNode 58 = .ok (.aconst_null, 1) := by decide +kernel
theorem dX2_freshNode_59 : decode cX2_freshNode 59 = .ok (.putfield 35, 3) := by decide +kernel
theorem dX2_freshNode_62 : decode cX2_freshNode 62 = .ok (.aload_n 2, 1) := by decide +kernel
theorem dX2_freshNode_63 : decode cX2_freshNode 63 = .ok (.aconst_null, 1) := by decide +kernel
theorem dX2_freshNode_64 : decode cX2_freshNode 64 = .ok (.putfield 32, 3) := by decide +kernel
theorem dX2_freshNode_67 : decode cX2_freshNode 67 = .ok (.aload_n 2, 1) := by decide +kernel
theorem dX2_freshNode_68 : decode cX2_freshNode 68 = .ok (.areturn, 1) := by decide +kernel
theorem dX2_higherThan_0 : decode cX2_higherThan 0 = .ok (.iconst 0, 1) := by decide +kernel
theorem dX2_higherThan_1 : decode cX2_higherThan 1 = .ok (.istore_n 2, 1) := by decide +kernel
theorem dX2_higherThan_2 : decode cX2_higherThan 2 = .ok (.aload_n 0, 1) := by decide +kernel
theorem dX2_higherThan_3 : decode cX2_higherThan 3 = .ok (.getfield 18, 3) := by decide +kernel
theorem dX2_higherThan_6 : decode cX2_higherThan 6 = .ok (.astore_n 3, 1) := by decide +kernel
theorem dX2_higherThan_7 : decode cX2_higherThan 7 = .ok (.iconst 0, 1) := by decide +kernel
theorem dX2_higherThan_8 : decode cX2_higherThan 8 = .ok (.istore 4, 2) := by decide +kernel
theorem dX2_higherThan_10 : decode cX2_higherThan 10 = .ok (.iload 4, 2) := by decide +kernel
theorem dX2_higherThan_12 : decode cX2_higherThan 12 = .ok (.bipush 12, 2) := by decide +kernel
theorem dX2_higherThan_14 : decode cX2_higherThan 14 = .ok (.if_icmp .ge 50, 3) := by decide +kernel
theorem dX2_higherThan_17 : decode cX2_higherThan 17 = .ok (.aload_n 3, 1) := by decide +kernel
theorem dX2_higherThan_18 : decode cX2_higherThan 18 = .ok (.ifnull 46, 3) := by decide +kernel
theorem dX2_higherThan_21 : decode cX2_higherThan 21 = .ok (.aload_n 3, 1) := by decide +kernel
theorem dX2_higherThan_22 : decode cX2_higherThan 22 = .ok (.getfield 26, 3) := by decide +kernel
theorem dX2_higherThan_25 : decode cX2_higherThan 25 = .ok (.iload_n 1, 1) := by decide +kernel
theorem dX2_higherThan_26 : decode cX2_higherThan 26 = .ok (.if_icmp .le 27, 3) := by decide +kernel
theorem dX2_higherThan_29 : decode cX2_higherThan 29 = .ok (.iload_n 2, 1) := by decide +kernel
theorem dX2_higherThan_30 : decode cX2_higherThan 30 = .ok (.aload_n 3, 1) := by decide +kernel
theorem dX2_higherThan_31 : decode cX2_higherThan 31 = .ok (.getfield 29, 3) := by decide +kernel
theorem dX2_higherThan_34 : decode cX2_higherThan 34 = .ok (.aload_n 3, 1) := by decide +kernel
theorem dX2_higherThan_35 : decode cX2_higherThan 35 = .ok (.getfield 32, 3) := by decide +kernel
theorem dX2_higherThan_38 : decode cX2_higherThan 38 = .ok (.iconst 1, 1) := by decide +kernel
theorem dX2_higherThan_39 : decode cX2_higherThan 39 = .ok (.invokestatic 42, 3) := by decide +kernel
theorem dX2_higherThan_42 : decode cX2_higherThan 42 = .ok (.iadd, 1) := by decide +kernel
theorem dX2_higherThan_43 : decode cX2_higherThan 43 = .ok (.iadd, 1) := by decide +kernel
theorem dX2_higherThan_44 : decode cX2_higherThan 44 = .ok (.istore_n 2, 1) := by decide +kernel
theorem dX2_higherThan_45 : decode cX2_higherThan 45 = .ok (.aload_n 3, 1) := by decide +kernel
theorem dX2_higherThan_46 : decode cX2_higherThan 46 = .ok (.getfield 35, 3) := by decide +kernel
theorem dX2_higherThan_49 : decode cX2_higherThan 49 = .ok (.astore_n 3, 1) := by decide +kernel
theorem dX2_higherThan_50 : decode cX2_higherThan 50 = .ok (.goto 8, 3) := by decide +kernel
theorem dX2_higherThan_53 : decode cX2_higherThan 53 = .ok (.aload_n 3, 1) := by decide +kernel
theorem dX2_higherThan_54 : decode cX2_higherThan 54 = .ok (.getfield 32, 3) := by decide +kernel
theorem dX2_higherThan_57 : decode cX2_higherThan 57 = .ok (.astore_n 3, 1) := by decide +kernel
theorem dX2_higherThan_58 : decode cX2_higherThan 58 = .ok (.iinc 4 1, 3) := by decide +kernel
theorem dX2_higherThan_61 : decode cX2_higherThan 61 = .ok (.goto (-51), 3) := by decide +kernel
theorem dX2_higherThan_64 : decode cX2_higherThan 64 = .ok (.iload_n 2, 1) := by decide +kernel
theorem dX2_higherThan_65 : decode cX2_higherThan 65 = .ok (.ireturn, 1) := by decide +kernel
theorem dX2_allBelow_0 : decode cX2_allBelow 0 = .ok (.aload_n 0, 1) := by decide +kernel
theorem dX2_allBelow_1 : decode cX2_allBelow 1 = .ok (.ifnull 9, 3) := by decide +kernel
theorem dX2_allBelow_4 : decode cX2_allBelow 4 = .ok (.iload_n 1, 1) := by decide +kernel
theorem dX2_allBelow_5 : decode cX2_allBelow 5 = .ok (.bipush 12, 2) := by decide +kernel
theorem dX2_allBelow_7 : decode cX2_allBelow 7 = .ok (.if_icmp .le 5, 3) := by decide +kernel
theorem dX2_allBelow_10 : decode cX2_allBelow 10 = .ok (.iconst 0, 1) := by decide +kernel
theorem dX2_allBelow_11 : decode cX2_allBelow 11 = .ok (.ireturn, 1) := by decide +kernel
theorem dX2_allBelow_12 : decode cX2_allBelow 12 = .ok (.aload_n 0, 1) := by decide +kernel
theorem dX2_allBelow_13 : decode cX2_allBelow 13 = .ok (.getfield 29, 3) := by decide +kernel
theorem dX2_allBelow_16 : decode cX2_allBelow 16 = .ok (.aload_n 0, 1) := by decide +kernel
theorem dX2_allBelow_17 : decode cX2_allBelow 17 = .ok (.getfield 35, 3) := by decide +kernel
theorem dX2_allBelow_20 : decode cX2_allBelow 20 = .ok (.iload_n 1, 1) := by decide +kernel
theorem dX2_allBelow_21 : decode cX2_allBelow 21 = .ok (.iconst 1, 1) := by decide +kernel
theorem dX2_allBelow_22 : decode cX2_allBelow 22 = .ok (.iadd, 1) := by decide +kernel
theorem dX2_allBelow_23 : decode cX2_allBelow 23 = .ok (.invokestatic 42, 3) := by decide +kernel
theorem dX2_allBelow_26 : decode cX2_allBelow 26 = .ok (.iadd, 1) := by decide +kernel
theorem dX2_allBelow_27 : decode cX2_allBelow 27 = .ok (.aload_n 0, 1) := by decide +kernel
theorem dX2_allBelow_28 : decode cX2_allBelow 28 = .ok (.getfield 32, 3) := by decide +kernel
theorem dX2_allBelow_31 : decode cX2_allBelow 31 = .ok (.iload_n 1, 1) := by decide +kernel
theorem dX2_allBelow_32 : decode cX2_allBelow 32 = .ok (.iconst 1, 1) := by decide +kernel
theorem dX2_allBelow_33 : decode cX2_allBelow 33 = .ok (.iadd, 1) := by decide +kernel
theorem dX2_allBelow_34 : decode cX2_allBelow 34 = .ok (.invokestatic 42, 3) := by decide +kernel
theorem dX2_allBelow_37 : decode cX2_allBelow 37 = .ok (.iadd, 1) := by decide +kernel
theorem dX2_allBelow_38 : decode cX2_allBelow 38 = .ok (.ireturn, 1) := by decide +kernel
theorem dX3_init_0 : decode cX3_init 0 = .ok (.aload_n 0, 1) := by decide +kernel
theorem dX3_init_1 : decode cX3_init 1 = .ok (.invokespecial 3, 3) := by decide +kernel
theorem dX3_init_4 : decode cX3_init 4 = .ok (.aload_n 0, 1) := by decide +kernel
theorem dX3_init_5 : decode cX3_init 5 = .ok (.bipush 6, 2) := by decide +kernel
theorem dX3_init_7 : decode cX3_init 7 = .ok (.anewarray 9, 3) := by decide +kernel
theorem dX3_init_10 : decode cX3_init 10 = .ok (.putfield 11, 3) := by decide +kernel
theorem dX3_init_13 : decode cX3_init 13 = .ok (.iconst 0, 1) := by decide +kernel
theorem dX3_init_14 : decode cX3_init 14 = .ok (.istore_n 1, 1) := by decide +kernel
theorem dX3_init_15 : decode cX3_init 15 = .ok (.iload_n 1, 1) := by decide +kernel
theorem dX3_init_16 : decode cX3_init 16 = .ok (.aload_n 0, 1) := by decide +kernel
theorem dX3_init_17 : decode cX3_init 17 = .ok (.getfield 11, 3) := by decide +kernel
theorem dX3_init_20 : decode cX3_init 20 = .ok (.arraylength, 1) := by decide +kernel
theorem dX3_init_21 : decode cX3_init 21 = .ok (.if_icmp .ge 22, 3) := by decide +kernel
theorem dX3_init_24 : decode cX3_init 24 = .ok (.aload_n 0, 1) := by decide +kernel
theorem dX3_init_25 : decode cX3_init 25 = .ok (.getfield 11, 3) := by decide +kernel
theorem dX3_init_28 : decode cX3_init 28 = .ok (.iload_n 1, 1) := by decide +kernel
theorem dX3_init_29 : decode cX3_init 29 = .ok (.new 9, 3) := by decide +kernel
theorem dX3_init_32 : decode cX3_init 32 = .ok (.dup, 1) := by decide +kernel
theorem dX3_init_33 : decode cX3_init 33 = .ok (.invokespecial 17, 3) := by decide +kernel
theorem dX3_init_36 : decode cX3_init 36 = .ok (.aastore, 1) := by decide +kernel
theorem dX3_init_37 : decode cX3_init 37 = .ok (.iinc 1 1, 3) := by decide +kernel
theorem dX3_init_40 : decode cX3_init 40 = .ok (.goto (-25), 3) := by decide +kernel
theorem dX3_init_43 : decode cX3_init 43 = .ok (.return_, 1) := by decide +kernel
theorem dX3_size_0 : decode cX3_size 0 = .ok (.aload_n 0, 1) := by decide +kernel
theorem dX3_size_1 : decode cX3_size 1 = .ok (.getfield 18, 3) := by decide +kernel
theorem dX3_size_4 : decode cX3_size 4 = .ok (.ireturn, 1) := by decide +kernel
theorem dX3_save_0 : decode cX3_save 0 = .ok (.aload_n 0, 1) := by decide +kernel
theorem dX3_save_1 : decode cX3_save 1 = .ok (.getfield 18, 3) := by decide +kernel
theorem dX3_save_4 : decode cX3_save 4 = .ok (.bipush 6, 2) := by decide +kernel
theorem dX3_save_6 : decode cX3_save 6 = .ok (.if_icmp .lt 26, 3) := by decide +kernel
theorem dX3_save_9 : decode cX3_save 9 = .ok (.aload_n 0, 1) := by decide +kernel
theorem dX3_save_10 : decode cX3_save 10 = .ok (.aload_n 0, 1) := by decide +kernel
theorem dX3_save_11 : decode cX3_save 11 = .ok (.getfield 22, 3) := by decide +kernel
theorem dX3_save_14 : decode cX3_save 14 = .ok (.iconst 1, 1) := by decide +kernel
theorem dX3_save_15 : decode cX3_save 15 = .ok (.iadd, 1) := by decide +kernel
theorem dX3_save_16 : decode cX3_save 16 = .ok (.bipush 6, 2) := by decide +kernel
theorem dX3_save_18 : decode cX3_save 18 = .ok (.irem, 1) := by decide +kernel
theorem dX3_save_19 : decode cX3_save 19 = .ok (.putfield 22, 3) := by decide +kernel
theorem dX3_save_22 : decode cX3_save 22 = .ok (.aload_n 0, 1) := by decide +kernel
theorem dX3_save_23 : decode cX3_save 23 = .ok (.dup, 1) := by decide +kernel
theorem dX3_save_24 : decode cX3_save 24 = .ok (.getfield 18, 3) := by decide +kernel
theorem dX3_save_27 : decode cX3_save 27 = .ok (.iconst 1, 1) := by decide +kernel
theorem dX3_save_28 : decode cX3_save 28 = .ok (.isub, 1) := by decide +kernel
theorem dX3_save_29 : decode cX3_save 29 = .ok (.putfield 18, 3) := by decide +kernel
theorem dX3_save_32 : decode cX3_save 32 = .ok (.aload_n 0, 1) := by decide +kernel
theorem dX3_save_33 : decode cX3_save 33 = .ok (.aload_n 0, 1) := by decide +kernel
theorem dX3_save_34 : decode cX3_save 34 = .ok (.getfield 18, 3) := by decide +kernel
theorem dX3_save_37 : decode cX3_save 37 = .ok (.invokevirtual 25, 3) := by decide +kernel
theorem dX3_save_40 : decode cX3_save 40 = .ok (.astore_n 2, 1) := by decide +kernel
theorem dX3_save_41 : decode cX3_save 41 = .ok (.aload_n 2, 1) := by decide +kernel
theorem dX3_save_42 : decode cX3_save 42 = .ok (.ifnull 18, 3) := by decide +kernel
theorem dX3_save_45 : decode cX3_save 45 = .ok (.aload_n 2, 1) := by decide +kernel
theorem dX3_save_46 : decode cX3_save 46 = .ok (.aload_n 1, 1) := by decide +kernel
theorem dX3_save_47 : decode cX3_save 47 = .ok (.invokevirtual 29, 3) := by decide +kernel
theorem dX3_save_50 : decode cX3_save 50 = .ok (.aload_n 0, 1) := by decide +kernel
theorem dX3_save_51 : decode cX3_save 51 = .ok (.dup, 1) := by decide +kernel
theorem dX3_save_52 : decode cX3_save 52 = .ok (.getfield 18, 3) := by decide +kernel
theorem dX3_save_55 : decode cX3_save 55 = .ok (.iconst 1, 1) := by decide +kernel
theorem dX3_save_56 : decode cX3_save 56 = .ok (.iadd, 1) := by decide +kernel
theorem dX3_save_57 : decode cX3_save 57 = .ok (.putfield 18, 3) := by decide +kernel
theorem dX3_save_60 : decode cX3_save 60 = .ok (.return_, 1) := by decide +kernel
theorem dX3_takeBack_0 : decode cX3_takeBack 0 = .ok (.aload_n 0, 1) := by decide +kernel
theorem dX3_takeBack_1 : decode cX3_takeBack 1 = .ok (.getfield 18, 3) := by decide +kernel
theorem dX3_takeBack_4 : decode cX3_takeBack 4 = .ok (.ifCond .le 25, 3) := by decide +kernel
theorem dX3_takeBack_7 : decode cX3_takeBack 7 = .ok (.aload_n 0, 1) := by decide +kernel
theorem dX3_takeBack_8 : decode cX3_takeBack 8 = .ok (.dup, 1) := by decide +kernel
theorem dX3_takeBack_9 : decode cX3_takeBack 9 = .ok (.getfield 18, 3) := by decide +kernel
theorem dX3_takeBack_12 : decode cX3_takeBack 12 = .ok (.iconst 1, 1) := by decide +kernel
theorem dX3_takeBack_13 : decode cX3_takeBack 13 = .ok (.isub, 1) := by decide +kernel
theorem dX3_takeBack_14 : decode cX3_takeBack 14 = .ok (.putfield 18, 3) := by decide +kernel
theorem dX3_takeBack_17 : decode cX3_takeBack 17 = .ok (.aload_n 1, 1) := by decide +kernel
theorem dX3_takeBack_18 : decode cX3_takeBack 18 = .ok (.aload_n 0, 1) := by decide +kernel
theorem dX3_takeBack_19 : decode cX3_takeBack 19 = .ok (.aload_n 0, 1) := by decide +kernel
theorem dX3_takeBack_20 : decode cX3_takeBack 20 = .ok (.getfield 18, 3) := by decide +kernel
theorem dX3_takeBack_23 : decode cX3_takeBack 23 = .ok (.invokevirtual 25, 3) := by decide +kernel
theorem dX3_takeBack_26 : decode cX3_takeBack 26 = .ok (.invokevirtual 29, 3) := by decide +kernel
theorem dX3_takeBack_29 : decode cX3_takeBack 29 = .ok (.return_, 1) := by decide +kernel
theorem dX3_slotAt_0 : decode cX3_slotAt 0 = .ok (.aload_n 0, 1) := by decide +kernel
theorem dX3_slotAt_1 : decode cX3_slotAt 1 = .ok (.getfield 22, 3) := by decide +kernel
theorem dX3_slotAt_4 : decode cX3_slotAt 4 = .ok (.iload_n 1, 1) := by decide +kernel
theorem dX3_slotAt_5 : decode cX3_slotAt 5 = .ok (.iadd, 1) := by decide +kernel
theorem dX3_slotAt_6 : decode cX3_slotAt 6 = .ok (.bipush 6, 2) := by decide +kernel
theorem dX3_slotAt_8 : decode cX3_slotAt 8 = .ok (.invokestatic 33, 3) := by decide +kernel
theorem dX3_slotAt_11 : decode cX3_slotAt 11 = .ok (.istore_n 2, 1) := by decide +kernel
theorem dX3_slotAt_12 : decode cX3_slotAt 12 = .ok (.iload_n 2, 1) := by decide +kernel
theorem dX3_slotAt_13 : decode cX3_slotAt 13 = .ok (.ifCond .lt 21, 3) := by decide +kernel
theorem dX3_slotAt_16 : decode cX3_slotAt 16 = .ok (.iload_n 2, 1) := by decide +kernel
theorem dX3_slotAt_17 : decode cX3_slotAt 17 = .ok (.aload_n 0, 1) := by decide +kernel
theorem dX3_slotAt_18 : decode cX3_slotAt 18 = .ok (.getfield 11, 3) := by decide +kernel
theorem dX3_slotAt_21 : decode cX3_slotAt 21 = .ok (.arraylength, 1) := by decide +kernel
theorem dX3_slotAt_22 : decode cX3_slotAt 22 = .ok (.if_icmp .ge 12, 3) := by decide +kernel
theorem dX3_slotAt_25 : decode cX3_slotAt 25 = .ok (.aload_n 0, 1) := by decide +kernel
theorem dX3_slotAt_26 : decode cX3_slotAt 26 = .ok (.getfield 11, 3) := by decide +kernel
theorem dX3_slotAt_29 : decode cX3_slotAt 29 = .ok (.iload_n 2, 1) := by decide +kernel
theorem dX3_slotAt_30 : decode cX3_slotAt 30 = .ok (.aaload, 1) := by decide +kernel
theorem dX3_slotAt_31 : decode cX3_slotAt 31 = .ok (.goto 4, 3) := by decide +kernel
theorem dX3_slotAt_34 : decode cX3_slotAt 34 = .ok (.aconst_null, 1) := by decide +kernel
theorem dX3_slotAt_35 : decode cX3_slotAt 35 = .ok (.areturn, 1) := by decide +kernel
theorem dX4_init_0 : decode cX4_init 0 = .ok (.aload_n 0, 1) := by decide +kernel
theorem dX4_init_1 : decode cX4_init 1 = .ok (.invokespecial 1, 3) := by decide +kernel
theorem dX4_init_4 : decode cX4_init 4 = .ok (.return_, 1) := by decide +kernel
theorem dX5_init_0 : decode cX5_init 0 = .ok (.aload_n 0, 1) := by decide +kernel
theorem dX5_init_1 : decode cX5_init 1 = .ok (.invokespecial 3, 3) := by decide +kernel
theorem dX5_init_4 : decode cX5_init 4 = .ok (.aload_n 0, 1) := by decide +kernel
theorem dX5_init_5 : decode cX5_init 5 = .ok (.bipush 6, 2) := by decide +kernel
theorem dX5_init_7 : decode cX5_init 7 = .ok (.newarray .int, 2) := by decide +kernel
theorem dX5_init_9 : decode cX5_init 9 = .ok (.putfield 9, 3) := by decide +kernel
theorem dX5_init_12 : decode cX5_init 12 = .ok (.aload_n 0, 1) := by decide +kernel
theorem dX5_init_13 : decode cX5_init 13 = .ok (.bipush 6, 2) := by decide +kernel
theorem dX5_init_15 : decode cX5_init 15 = .ok (.newarray .int, 2) := by decide +kernel
theorem dX5_init_17 : decode cX5_init 17 = .ok (.putfield 15, 3) := by decide +kernel
theorem dX5_init_20 : decode cX5_init 20 = .ok (.aload_n 0, 1) := by decide +kernel
theorem dX5_init_21 : decode cX5_init 21 = .ok (.bipush 6, 2) := by decide +kernel
theorem dX5_init_23 : decode cX5_init 23 = .ok (.newarray .int, 2) := by decide +kernel
theorem dX5_init_25 : decode cX5_init 25 = .ok (.putfield 18, 3) := by decide +kernel
theorem dX5_init_28 : decode cX5_init 28 = .ok (.return_, 1) := by decide +kernel
theorem dX5_goThrough_0 : decode cX5_goThrough 0 = .ok (.aload_n 0, 1) := by decide +kernel
theorem dX5_goThrough_1 : decode cX5_goThrough 1 = .ok (.aload_n 1, 1) := by decide +kernel
theorem dX5_goThrough_2 : decode cX5_goThrough 2 = .ok (.iload_n 2, 1) := by decide +kernel
theorem dX5_goThrough_3 : decode cX5_goThrough 3 = .ok (.invokevirtual 21, 3) := by decide +kernel
theorem dX5_goThrough_6 : decode cX5_goThrough 6 = .ok (.bipush 6, 2) := by decide +kernel
theorem dX5_goThrough_8 : decode cX5_goThrough 8 = .ok (.invokestatic 27, 3) := by decide +kernel
theorem dX5_goThrough_11 : decode cX5_goThrough 11 = .ok (.putfield 33, 3) := by decide +kernel
theorem dX5_goThrough_14 : decode cX5_goThrough 14 = .ok (.aload_n 0, 1) := by decide +kernel
theorem dX5_goThrough_15 : decode cX5_goThrough 15 = .ok (.aload_n 1, 1) := by decide +kernel
theorem dX5_goThrough_16 : decode cX5_goThrough 16 = .ok (.iconst 0, 1) := by decide +kernel
theorem dX5_goThrough_17 : decode cX5_goThrough 17 = .ok (.invokevirtual 37, 3) := by decide +kernel
theorem dX5_goThrough_20 : decode cX5_goThrough 20 = .ok (.putfield 40, 3) := by decide +kernel
theorem dX5_goThrough_23 : decode cX5_goThrough 23 = .ok (.iconst 0, 1) := by decide +kernel
theorem dX5_goThrough_24 : decode cX5_goThrough 24 = .ok (.istore_n 3, 1) := by decide +kernel
theorem dX5_goThrough_25 : decode cX5_goThrough 25 = .ok (.iload_n 3, 1) := by decide +kernel
theorem dX5_goThrough_26 : decode cX5_goThrough 26 = .ok (.aload_n 0, 1) := by decide +kernel
theorem dX5_goThrough_27 : decode cX5_goThrough 27 = .ok (.getfield 33, 3) := by decide +kernel
theorem dX5_goThrough_30 : decode cX5_goThrough 30 = .ok (.if_icmp .ge 16, 3) := by decide +kernel
theorem dX5_goThrough_33 : decode cX5_goThrough 33 = .ok (.aload_n 0, 1) := by decide +kernel
theorem dX5_goThrough_34 : decode cX5_goThrough 34 = .ok (.aload_n 1, 1) := by decide +kernel
theorem dX5_goThrough_35 : decode cX5_goThrough 35 = .ok (.iload_n 2, 1) := by decide +kernel
theorem dX5_goThrough_36 : decode cX5_goThrough 36 = .ok (.iload_n 3, 1) := by decide +kernel
theorem dX5_goThrough_37 : decode cX5_goThrough 37 = .ok (.invokevirtual 43, 3) := by decide +kernel
theorem dX5_goThrough_40 : decode cX5_goThrough 40 = .ok (.iinc 3 1, 3) := by decide +kernel
theorem dX5_goThrough_43 : decode cX5_goThrough 43 = .ok (.goto (-18), 3) := by decide +kernel
theorem dX5_goThrough_46 : decode cX5_goThrough 46 = .ok (.aload_n 0, 1) := by decide +kernel
theorem dX5_goThrough_47 : decode cX5_goThrough 47 = .ok (.iconst (-1), 1) := by decide +kernel
theorem dX5_goThrough_48 : decode cX5_goThrough 48 = .ok (.putfield 47, 3) := by decide +kernel
theorem dX5_goThrough_51 : decode cX5_goThrough 51 = .ok (.aload_n 0, 1) := by decide +kernel
theorem dX5_goThrough_52 : decode cX5_goThrough 52 = .ok (.iconst 0, 1) := by decide +kernel
theorem dX5_goThrough_53 : decode cX5_goThrough 53 = .ok (.putfield 50, 3) := by decide +kernel
theorem dX5_goThrough_56 : decode cX5_goThrough 56 = .ok (.aload_n 0, 1) := by decide +kernel
theorem dX5_goThrough_57 : decode cX5_goThrough 57 = .ok (.iconst 0, 1) := by decide +kernel
theorem dX5_goThrough_58 : decode cX5_goThrough 58 = .ok (.iconst 0, 1) := by decide +kernel
theorem dX5_goThrough_59 : decode cX5_goThrough 59 = .ok (.iconst 0, 1) := by decide +kernel
theorem dX5_goThrough_60 : decode cX5_goThrough 60 = .ok (.iconst 0, 1) := by decide +kernel
theorem dX5_goThrough_61 : decode cX5_goThrough 61 = .ok (.invokevirtual 53, 3) := by decide +kernel
theorem dX5_goThrough_64 : decode cX5_goThrough 64 = .ok (.return_, 1) := by decide +kernel
theorem dX5_noteSinger_0 : decode cX5_noteSinger 0 = .ok (.aload_n 1, 1) := by decide +kernel
theorem dX5_noteSinger_1 : decode cX5_noteSinger 1 = .ok (.iload_n 2, 1) := by decide +kernel
theorem dX5_noteSinger_2 : decode cX5_noteSinger 2 = .ok (.iload_n 3, 1) := by decide +kernel
theorem dX5_noteSinger_3 : decode cX5_noteSinger 3 = .ok (.invokevirtual 57, 3) := by decide +kernel
theorem dX5_noteSinger_6 : decode cX5_noteSinger 6 = .ok (.istore 4, 2) := by decide +kernel
theorem dX5_noteSinger_8 : decode cX5_noteSinger 8 = .ok (.iconst 0, 1) := by decide +kernel
theorem dX5_noteSinger_9 : decode cX5_noteSinger 9 = .ok (.istore 5, 2) := by decide +kernel
theorem dX5_noteSinger_11 : decode cX5_noteSinger 11 = .ok (.iconst 0, 1) := by decide +kernel
theorem dX5_noteSinger_12 : decode cX5_noteSinger 12 = .ok (.istore 6, 2) := by decide +kernel
theorem dX5_noteSinger_14 : decode cX5_noteSinger 14 = .ok (.iconst 0, 1) := by decide +kernel
theorem dX5_noteSinger_15 : decode cX5_noteSinger 15 = .ok (.istore 7, 2) := by decide +kernel
theorem dX5_noteSinger_17 : decode cX5_noteSinger 17 = .ok (.iload 7, 2) := by decide +kernel
theorem dX5_noteSinger_19 : decode cX5_noteSinger 19 = .ok (.aload_n 0, 1) := by decide +kernel
theorem dX5_noteSinger_20 : decode cX5_noteSinger 20 = .ok (.getfield 33, 3) := by decide +kernel
theorem dX5_noteSinger_23 : decode cX5_noteSinger 23 = .ok (.if_icmp .ge 49, 3) := by decide +kernel
theorem dX5_noteSinger_26 : decode cX5_noteSinger 26 = .ok (.aload_n 1, 1) := by decide +kernel
theorem dX5_noteSinger_27 : decode cX5_noteSinger 27 = .ok (.iload_n 2, 1) := by decide +kernel
theorem dX5_noteSinger_28 : decode cX5_noteSinger 28 = .ok (.iload 7, 2) := by decide +kernel
theorem dX5_noteSinger_30 : decode cX5_noteSinger 30 = .ok (.invokevirtual 57, 3) := by decide +kernel
theorem dX5_noteSinger_33 : decode cX5_noteSinger 33 = .ok (.iload 4, 2) := by decide +kernel
theorem dX5_noteSinger_35 : decode cX5_noteSinger 35 = .ok (.if_icmp .le 12, 3) := by decide +kernel
theorem dX5_noteSinger_38 : decode cX5_noteSinger 38 = .ok (.iload 5, 2) := by decide +kernel
theorem dX5_noteSinger_40 : decode cX5_noteSinger 40 = .ok (.iconst 1, 1) := by decide +kernel
theorem dX5_noteSinger_41 : decode cX5_noteSinger 41 = .ok (.iload 7, 2) := by decide +kernel
theorem dX5_noteSinger_43 : decode cX5_noteSinger 43 = .ok (.ishl, 1) := by decide +kernel
theorem dX5_noteSinger_44 : decode cX5_noteSinger 44 = .ok (.ior, 1) := by decide +kernel
theorem dX5_noteSinger_45 : decode cX5_noteSinger 45 = .ok (.istore 5, 2) := by decide +kernel
theorem dX5_noteSinger_47 : decode cX5_noteSinger 47 = .ok (.iload 6, 2) := by decide +kernel
theorem dX5_noteSinger_49 : decode cX5_noteSinger 49 = .ok (.aload_n 1, 1) := by decide +kernel
theorem dX5_noteSinger_50 : decode cX5_noteSinger 50 = .ok (.iload_n 2, 1) := by decide +kernel
theorem dX5_noteSinger_51 : decode cX5_noteSinger 51 = .ok (.iload 7, 2) := by decide +kernel
theorem dX5_noteSinger_53 : decode cX5_noteSinger 53 = .ok (.iload 4, 2) := by decide +kernel
theorem dX5_noteSinger_55 : decode cX5_noteSinger 55 = .ok (.invokevirtual 60, 3) := by decide +kernel
theorem dX5_noteSinger_58 : decode cX5_noteSinger 58 = .ok (.iconst 1, 1) := by decide +kernel
theorem dX5_noteSinger_59 : decode cX5_noteSinger 59 = .ok (.iand, 1) := by decide +kernel
theorem dX5_noteSinger_60 : decode cX5_noteSinger 60 = .ok (.iload 7, 2) := by decide +kernel
theorem dX5_noteSinger_62 : decode cX5_noteSinger 62 = .ok (.ishl, 1) := by decide +kernel
theorem dX5_noteSinger_63 : decode cX5_noteSinger 63 = .ok (.ior, 1) := by decide +kernel
theorem dX5_noteSinger_64 : decode cX5_noteSinger 64 = .ok (.istore 6, 2) := by decide +kernel
theorem dX5_noteSinger_66 : decode cX5_noteSinger 66 = .ok (.iinc 7 1, 3) := by decide +kernel
theorem dX5_noteSinger_69 : decode cX5_noteSinger 69 = .ok (.goto (-52), 3) := by decide +kernel
theorem dX5_noteSinger_72 : decode cX5_noteSinger 72 = .ok (.aload_n 0, 1) := by decide +kernel
theorem dX5_noteSinger_73 : decode cX5_noteSinger 73 = .ok (.getfield 9, 3) := by decide +kernel
theorem dX5_noteSinger_76 : decode cX5_noteSinger 76 = .ok (.iload_n 3, 1) := by decide +kernel
theorem dX5_noteSinger_77 : decode cX5_noteSinger 77 = .ok (.iload 5, 2) := by decide +kernel
theorem dX5_noteSinger_79 : decode cX5_noteSinger 79 = .ok (.invokestatic 64, 3) := by decide +kernel
theorem dX5_noteSinger_82 : decode cX5_noteSinger 82 = .ok (.aload_n 0, 1) := by decide +kernel
theorem dX5_noteSinger_83 : decode cX5_noteSinger 83 = .ok (.getfield 15, 3) := by decide +kernel
theorem dX5_noteSinger_86 : decode cX5_noteSinger 86 = .ok (.iload_n 3, 1) := by decide +kernel
theorem dX5_noteSinger_87 : decode cX5_noteSinger 87 = .ok (.iload 6, 2) := by decide +kernel
theorem dX5_noteSinger_89 : decode cX5_noteSinger 89 = .ok (.invokestatic 64, 3) := by decide +kernel
theorem dX5_noteSinger_92 : decode cX5_noteSinger 92 = .ok (.return_, 1) := by decide +kernel
theorem dX5_choose_0 : decode cX5_choose 0 = .ok (.aload_n 0, 1) := by decide +kernel
theorem dX5_choose_1 : decode cX5_choose 1 = .ok (.iload_n 3, 1) := by decide +kernel
theorem dX5_choose_2 : decode cX5_choose 2 = .ok (.aload_n 0, 1) := by decide +kernel
theorem dX5_choose_3 : decode cX5_choose 3 = .ok (.getfield 33, 3) := by decide +kernel
theorem dX5_choose_6 : decode cX5_choose 6 = .ok (.iadd, 1) := by decide +kernel
theorem dX5_choose_7 : decode cX5_choose 7 = .ok (.iload_n 1, 1) := by decide +kernel
theorem dX5_choose_8 : decode cX5_choose 8 = .ok (.isub, 1) := by decide +kernel
theorem dX5_choose_9 : decode cX5_choose 9 = .ok (.iload 4, 2) := by decide +kernel
theorem dX5_choose_11 : decode cX5_choose 11 = .ok (.invokevirtual 68, 3) := by decide +kernel
theorem dX5_choose_14 : decode cX5_choose 14 = .ok (.ifCond .eq 4, 3) := by decide +kernel
theorem dX5_choose_17 : decode cX5_choose 17 = .ok (.return_, 1) := by decide +kernel
theorem dX5_choose_18 : decode cX5_choose 18 = .ok (.iload_n 1, 1) := by decide +kernel
theorem dX5_choose_19 : decode cX5_choose 19 = .ok (.aload_n 0, 1) := by decide +kernel
theorem dX5_choose_20 : decode cX5_choose 20 = .ok (.getfield 33, 3) := by decide +kernel
theorem dX5_choose_23 : decode cX5_choose 23 = .ok (.if_icmp .lt 15, 3) := by decide +kernel
theorem dX5_choose_26 : decode cX5_choose 26 = .ok (.aload_n 0, 1) := by decide +kernel
theorem dX5_choose_27 : decode cX5_choose 27 = .ok (.iload_n 3, 1) := by decide +kernel
theorem dX5_choose_28 : decode cX5_choose 28 = .ok (.putfield 47, 3) := by decide +kernel
theorem dX5_choose_31 : decode cX5_choose 31 = .ok (.aload_n 0, 1) := by decide +kernel
theorem dX5_choose_32 : decode cX5_choose 32 = .ok (.iload 4, 2) := by decide +kernel
theorem dX5_choose_34 : decode cX5_choose 34 = .ok (.putfield 50, 3) := by decide +kernel
theorem dX5_choose_37 : decode cX5_choose 37 = .ok (.return_, 1) := by decide +kernel
theorem dX5_choose_38 : decode cX5_choose 38 = .ok (.aload_n 0, 1) := by decide +kernel
theorem dX5_choose_39 : decode cX5_choose 39 = .ok (.iload_n 1, 1) := by decide +kernel
theorem dX5_choose_40 : decode cX5_choose 40 = .ok (.iload_n 2, 1) := by decide +kernel
theorem dX5_choose_41 : decode cX5_choose 41 = .ok (.invokevirtual 72, 3) := by decide +kernel
theorem dX5_choose_44 : decode cX5_choose 44 = .ok (.istore 5, 2) := by decide +kernel
theorem dX5_choose_46 : decode cX5_choose 46 = .ok (.iconst 0, 1) := by decide +kernel
theorem dX5_choose_47 : decode cX5_choose 47 = .ok (.istore 6, 2) := by decide +kernel
theorem dX5_choose_49 : decode cX5_choose 49 = .ok (.iload 6, 2) := by decide +kernel
theorem dX5_choose_51 : decode cX5_choose 51 = .ok (.aload_n 0, 1) := by decide +kernel
theorem dX5_choose_52 : decode cX5_choose 52 = .ok (.getfield 33, 3) := by decide +kernel
theorem dX5_choose_55 : decode cX5_choose 55 = .ok (.if_icmp .ge 68, 3) := by decide +kernel
theorem dX5_choose_58 : decode cX5_choose 58 = .ok (.iconst 1, 1) := by decide +kernel
theorem dX5_choose_59 : decode cX5_choose 59 = .ok (.iload 6, 2) := by decide +kernel
theorem dX5_choose_61 : decode cX5_choose 61 = .ok (.ishl, 1) := by decide +kernel
theorem dX5_choose_62 : decode cX5_choose 62 = .ok (.istore 7, 2) := by decide +kernel
theorem dX5_choose_64 : decode cX5_choose 64 = .ok (.iload_n 2, 1) := by decide +kernel
theorem dX5_choose_65 : decode cX5_choose 65 = .ok (.iload 7, 2) := by decide +kernel
theorem dX5_choose_67 : decode cX5_choose 67 = .ok (.iand, 1) := by decide +kernel
theorem dX5_choose_68 : decode cX5_choose 68 = .ok (.ifCond .ne 49, 3) := by decide +kernel
theorem dX5_choose_71 : decode cX5_choose 71 = .ok (.aload_n 0, 1) := by decide +kernel
theorem dX5_choose_72 : decode cX5_choose 72 = .ok (.getfield 18, 3) := by decide +kernel
theorem dX5_choose_75 : decode cX5_choose 75 = .ok (.iload_n 1, 1) := by decide +kernel
theorem dX5_choose_76 : decode cX5_choose 76 = .ok (.iload 7, 2) := by decide +kernel
theorem dX5_choose_78 : decode cX5_choose 78 = .ok (.invokestatic 64, 3) := by decide +kernel
theorem dX5_choose_81 : decode cX5_choose 81 = .ok (.iload_n 2, 1) := by decide +kernel
theorem dX5_choose_82 : decode cX5_choose 82 = .ok (.iload 6, 2) := by decide +kernel
theorem dX5_choose_84 : decode cX5_choose 84 = .ok (.ishr, 1) := by decide +kernel
theorem dX5_choose_85 : decode cX5_choose 85 = .ok (.invokestatic 75, 3) := by decide +kernel
theorem dX5_choose_88 : decode cX5_choose 88 = .ok (.istore 8, 2) := by decide +kernel
theorem dX5_choose_90 : decode cX5_choose 90 = .ok (.aload_n 0, 1) := by decide +kernel
theorem dX5_choose_91 : decode cX5_choose 91 = .ok (.iload_n 1, 1) := by decide +kernel
theorem dX5_choose_92 : decode cX5_choose 92 = .ok (.iconst 1, 1) := by decide +kernel
theorem dX5_choose_93 : decode cX5_choose 93 = .ok (.iadd, 1) := by decide +kernel
theorem dX5_choose_94 : decode cX5_choose 94 = .ok (.iload_n 2, 1) := by decide +kernel
theorem dX5_choose_95 : decode cX5_choose 95 = .ok (.iload 7, 2) := by decide +kernel
theorem dX5_choose_97 : decode cX5_choose 97 = .ok (.ior, 1) := by decide +kernel
theorem dX5_choose_98 : decode cX5_choose 98 = .ok (.iload_n 3, 1) := by decide +kernel
theorem dX5_choose_99 : decode cX5_choose 99 = .ok (.aload_n 0, 1) := by decide +kernel
theorem dX5_choose_100 : decode cX5_choose 100 = .ok (.iload 6, 2) := by decide +kernel
theorem dX5_choose_102 : decode cX5_choose 102 = .ok (.iload_n 1, 1) := by decide +kernel
theorem dX5_choose_103 : decode cX5_choose 103 = .ok (.iload 5, 2) := by decide +kernel
theorem dX5_choose_105 : decode cX5_choose 105 = .ok (.invokevirtual 80, 3) := by decide +kernel
theorem dX5_choose_108 : decode cX5_choose 108 = .ok (.iadd, 1) := by decide +kernel
theorem dX5_choose_109 : decode cX5_choose 109 = .ok (.iload 4, 2) := by decide +kernel
theorem dX5_choose_111 : decode cX5_choose 111 = .ok (.iload 8, 2) := by decide +kernel
theorem dX5_choose_113 : decode cX5_choose 113 = .ok (.iadd, 1) := by decide +kernel
theorem dX5_choose_114 : decode cX5_choose 114 = .ok (.invokevirtual 53, 3) := by decide +kernel
theorem dX5_choose_117 : decode cX5_choose 117 = .ok (.iinc 6 1, 3) := by decide +kernel
theorem dX5_choose_120 : decode cX5_choose 120 = .ok (.goto (-71), 3) := by decide +kernel
theorem dX5_choose_123 : decode cX5_choose 123 = .ok (.return_, 1) := by decide +kernel
theorem dX5_cannotBeBetter_0 : decode cX5_cannotBeBetter 0 = .ok (.iload_n 1, 1) := by decide +kernel
theorem dX5_cannotBeBetter_1 : decode cX5_cannotBeBetter 1 = .ok (.aload_n 0, 1) := by decide +kernel
theorem dX5_cannotBeBetter_2 : decode cX5_cannotBeBetter 2 = .ok (.getfield 47, 3) := by decide +kernel
theorem dX5_cannotBeBetter_5 : decode cX5_cannotBeBetter 5 = .ok (.if_icmp .lt 19, 3) := by decide +kernel
theorem dX5_cannotBeBetter_8 : decode cX5_cannotBeBetter 8 = .ok (.iload_n 1, 1) := by decide +kernel
theorem dX5_cannotBeBetter_9 : decode cX5_cannotBeBetter 9 = .ok (.aload_n 0, 1) := by decide +kernel
theorem dX5_cannotBeBetter_10 : decode cX5_cannotBeBetter 10 = .ok (.getfield 47, 3) := by decide +kernel
theorem dX5_cannotBeBetter_13 : decode cX5_cannotBeBetter 13 = .ok (.if_icmp .ne 15, 3) := by decide +kernel
theorem dX5_cannotBeBetter_16 : decode cX5_cannotBeBetter 16 = .ok (.iload_n 2, 1) := by decide +kernel
theorem dX5_cannotBeBetter_17 : decode cX5_cannotBeBetter 17 = .ok (.aload_n 0, 1) := by decide +kernel
theorem dX5_cannotBeBetter_18 : decode cX5_cannotBeBetter 18 = .ok (.getfield 50, 3) := by decide +kernel
theorem dX5_cannotBeBetter_21 : decode cX5_cannotBeBetter 21 = .ok (.if_icmp .lt 7, 3) := by decide +kernel
theorem dX5_cannotBeBetter_24 : decode cX5_cannotBeBetter 24 = .ok (.iconst 1, 1) := by decide +kernel
theorem dX5_cannotBeBetter_25 : decode cX5_cannotBeBetter 25 = .ok (.goto 4, 3) := by decide +kernel
theorem dX5_cannotBeBetter_28 : decode cX5_cannotBeBetter 28 = .ok (.iconst 0, 1) := by decide +kernel
theorem dX5_cannotBeBetter_29 : decode cX5_cannotBeBetter 29 = .ok (.ireturn, 1) := by decide +kernel
theorem dX5_heardAt_0 : decode cX5_heardAt 0 = .ok (.iload_n 2, 1) := by decide +kernel
theorem dX5_heardAt_1 : decode cX5_heardAt 1 = .ok (.istore_n 3, 1) := by decide +kernel
theorem dX5_heardAt_2 : decode cX5_heardAt 2 = .ok (.iconst 0, 1) := by decide +kernel
theorem dX5_heardAt_3 : decode cX5_heardAt 3 = .ok (.istore 4, 2) := by decide +kernel
theorem dX5_heardAt_5 : decode cX5_heardAt 5 = .ok (.iload 4, 2) := by decide +kernel
theorem dX5_heardAt_7 : decode cX5_heardAt 7 = .ok (.iload_n 1, 1) := by decide +kernel
theorem dX5_heardAt_8 : decode cX5_heardAt 8 = .ok (.aload_n 0, 1) := by decide +kernel
theorem dX5_heardAt_9 : decode cX5_heardAt 9 = .ok (.getfield 40, 3) := by decide +kernel
theorem dX5_heardAt_12 : decode cX5_heardAt 12 = .ok (.isub, 1) := by decide +kernel
theorem dX5_heardAt_13 : decode cX5_heardAt 13 = .ok (.if_icmp .ge 23, 3) := by decide +kernel
theorem dX5_heardAt_16 : decode cX5_heardAt 16 = .ok (.iload_n 3, 1) := by decide +kernel
theorem dX5_heardAt_17 : decode cX5_heardAt 17 = .ok (.aload_n 0, 1) := by decide +kernel
theorem dX5_heardAt_18 : decode cX5_heardAt 18 = .ok (.getfield 18, 3) := by decide +kernel
theorem dX5_heardAt_21 : decode cX5_heardAt 21 = .ok (.iload 4, 2) := by decide +kernel
theorem dX5_heardAt_23 : decode cX5_heardAt 23 = .ok (.invokestatic 83, 3) := by decide +kernel
theorem dX5_heardAt_26 : decode cX5_heardAt 26 = .ok (.iconst (-1), 1) := by decide +kernel
theorem dX5_heardAt_27 : decode cX5_heardAt 27 = .ok (.ixor, 1) := by decide +kernel
theorem dX5_heardAt_28 : decode cX5_heardAt 28 = .ok (.iand, 1) := by decide +kernel
theorem dX5_heardAt_29 : decode cX5_heardAt 29 = .ok (.istore_n 3, 1) := by decide +kernel
theorem dX5_heardAt_30 : decode cX5_heardAt 30 = .ok (.iinc 4 1, 3) := by decide +kernel
theorem dX5_heardAt_33 : decode cX5_heardAt 33 = .ok (.goto (-28), 3) := by decide +kernel
theorem dX5_heardAt_36 : decode cX5_heardAt 36 = .ok (.iload_n 3, 1) := by decide +kernel
theorem dX5_heardAt_37 : decode cX5_heardAt 37 = .ok (.ireturn, 1) := by decide +kernel
theorem dX5_parityOf_0 : decode cX5_parityOf 0 = .ok (.aload_n 0, 1) := by decide +kernel
theorem dX5_parityOf_1 : decode cX5_parityOf 1 = .ok (.getfield 9, 3) := by decide +kernel
theorem dX5_parityOf_4 : decode cX5_parityOf 4 = .ok (.iload_n 1, 1) := by decide +kernel
theorem dX5_parityOf_5 : decode cX5_parityOf 5 = .ok (.invokestatic 83, 3) := by decide +kernel
theorem dX5_parityOf_8 : decode cX5_parityOf 8 = .ok (.iload_n 3, 1) := by decide +kernel
theorem dX5_parityOf_9 : decode cX5_parityOf 9 = .ok (.iand, 1) := by decide +kernel
theorem dX5_parityOf_10 : decode cX5_parityOf 10 = .ok (.invokestatic 75, 3) := by decide +kernel
theorem dX5_parityOf_13 : decode cX5_parityOf 13 = .ok (.istore 4, 2) := by decide +kernel
theorem dX5_parityOf_15 : decode cX5_parityOf 15 = .ok (.iload 4, 2) := by decide +kernel
theorem dX5_parityOf_17 : decode cX5_parityOf 17 = .ok (.aload_n 0, 1) := by decide +kernel
theorem dX5_parityOf_18 : decode cX5_parityOf 18 = .ok (.getfield 15, 3) := by decide +kernel
theorem dX5_parityOf_21 : decode cX5_parityOf 21 = .ok (.iload_n 1, 1) := by decide +kernel
theorem dX5_parityOf_22 : decode cX5_parityOf 22 = .ok (.invokestatic 83, 3) := by decide +kernel
theorem dX5_parityOf_25 : decode cX5_parityOf 25 = .ok (.iload_n 2, 1) := by decide +kernel
theorem dX5_parityOf_26 : decode cX5_parityOf 26 = .ok (.ishr, 1) := by decide +kernel
theorem dX5_parityOf_27 : decode cX5_parityOf 27 = .ok (.iadd, 1) := by decide +kernel
theorem dX5_parityOf_28 : decode cX5_parityOf 28 = .ok (.iconst 1, 1) := by decide +kernel
theorem dX5_parityOf_29 : decode cX5_parityOf 29 = .ok (.iand, 1) := by decide +kernel
theorem dX5_parityOf_30 : decode cX5_parityOf 30 = .ok (.ireturn, 1) := by decide +kernel
theorem dX6_init_0 : decode cX6_init 0 = .ok (.aload_n 0, 1) := by decide +kernel
theorem dX6_init_1 : decode cX6_init 1 = .ok (.invokespecial 3, 3) := by decide +kernel
theorem dX6_init_4 : decode cX6_init 4 = .ok (.aload_n 0, 1) := by decide +kernel
theorem dX6_init_5 : decode cX6_init 5 = .ok (.new 9, 3) := by decide +kernel
theorem dX6_init_8 : decode cX6_init 8 = .ok (.dup, 1) := by decide +kernel
theorem dX6_init_9 : decode cX6_init 9 = .ok (.invokespecial 11, 3) := by decide +kernel
theorem dX6_init_12 : decode cX6_init 12 = .ok (.putfield 12, 3) := by decide +kernel
theorem dX6_init_15 : decode cX6_init 15 = .ok (.aload_n 0, 1) := by decide +kernel
theorem dX6_init_16 : decode cX6_init 16 = .ok (.new 9, 3) := by decide +kernel
theorem dX6_init_19 : decode cX6_init 19 = .ok (.dup, 1) := by decide +kernel
theorem dX6_init_20 : decode cX6_init 20 = .ok (.invokespecial 11, 3) := by decide +kernel
theorem dX6_init_23 : decode cX6_init 23 = .ok (.putfield 16, 3) := by decide +kernel
theorem dX6_init_26 : decode cX6_init 26 = .ok (.aload_n 0, 1) := by decide +kernel
theorem dX6_init_27 : decode cX6_init 27 = .ok (.new 9, 3) := by decide +kernel
theorem dX6_init_30 : decode cX6_init 30 = .ok (.dup, 1) := by decide +kernel
theorem dX6_init_31 : decode cX6_init 31 = .ok (.invokespecial 11, 3) := by decide +kernel
theorem dX6_init_34 : decode cX6_init 34 = .ok (.putfield 19, 3) := by decide +kernel
theorem dX6_init_37 : decode cX6_init 37 = .ok (.aload_n 0, 1) := by decide +kernel
theorem dX6_init_38 : decode cX6_init 38 = .ok (.iconst 0, 1) := by decide +kernel
theorem dX6_init_39 : decode cX6_init 39 = .ok (.putfield 22, 3) := by decide +kernel
theorem dX6_init_42 : decode cX6_init 42 = .ok (.aload_n 0, 1) := by decide +kernel
theorem dX6_init_43 : decode cX6_init 43 = .ok (.new 26, 3) := by decide +kernel
theorem dX6_init_46 : decode cX6_init 46 = .ok (.dup, 1) := by decide +kernel
theorem dX6_init_47 : decode cX6_init 47 = .ok (.invokespecial 28, 3) := by decide +kernel
theorem dX6_init_50 : decode cX6_init 50 = .ok (.putfield 29, 3) := by decide +kernel
theorem dX6_init_53 : decode cX6_init 53 = .ok (.aload_n 0, 1) := by decide +kernel
theorem dX6_init_54 : decode cX6_init 54 = .ok (.new 33, 3) := by decide +kernel
theorem dX6_init_57 : decode cX6_init 57 = .ok (.dup, 1) := by decide +kernel
theorem dX6_init_58 : decode cX6_init 58 = .ok (.invokespecial 35, 3) := by decide +kernel
theorem dX6_init_61 : decode cX6_init 61 = .ok (.putfield 36, 3) := by decide +kernel
theorem dX6_init_64 : decode cX6_init 64 = .ok (.aload_n 0, 1) := by decide +kernel
theorem dX6_init_65 : decode cX6_init 65 = .ok (.new 40, 3) := by decide +kernel
theorem dX6_init_68 : decode cX6_init 68 = .ok (.dup, 1) := by decide +kernel
theorem dX6_init_69 : decode cX6_init 69 = .ok (.invokespecial 42, 3) := by decide +kernel
theorem dX6_init_72 : decode cX6_init 72 = .ok (.putfield 43, 3) := by decide +kernel
theorem dX6_init_75 : decode cX6_init 75 = .ok (.aload_n 0, 1) := by decide +kernel
theorem dX6_init_76 : decode cX6_init 76 = .ok (.new 47, 3) := by decide +kernel
theorem dX6_init_79 : decode cX6_init 79 = .ok (.dup, 1) := by decide +kernel
theorem dX6_init_80 : decode cX6_init 80 = .ok (.invokespecial 49, 3) := by decide +kernel
theorem dX6_init_83 : decode cX6_init 83 = .ok (.putfield 50, 3) := by decide +kernel
theorem dX6_init_86 : decode cX6_init 86 = .ok (.return_, 1) := by decide +kernel
theorem dX6_join_0 : decode cX6_join 0 = .ok (.iload_n 1, 1) := by decide +kernel
theorem dX6_join_1 : decode cX6_join 1 = .ok (.invokestatic 54, 3) := by decide +kernel
theorem dX6_join_4 : decode cX6_join 4 = .ok (.iload_n 2, 1) := by decide +kernel
theorem dX6_join_5 : decode cX6_join 5 = .ok (.invokestatic 58, 3) := by decide +kernel
theorem dX6_join_8 : decode cX6_join 8 = .ok (.iload_n 3, 1) := by decide +kernel
theorem dX6_join_9 : decode cX6_join 9 = .ok (.iconst 0, 1) := by decide +kernel
theorem dX6_join_10 : decode cX6_join 10 = .ok (.iconst 3, 1) := by decide +kernel
theorem dX6_join_11 : decode cX6_join 11 = .ok (.invokestatic 61, 3) := by decide +kernel
theorem dX6_join_14 : decode cX6_join 14 = .ok (.invokestatic 65, 3) := by decide +kernel
theorem dX6_join_17 : decode cX6_join 17 = .ok (.aload_n 0, 1) := by decide +kernel
theorem dX6_join_18 : decode cX6_join 18 = .ok (.getfield 12, 3) := by decide +kernel
theorem dX6_join_21 : decode cX6_join 21 = .ok (.iload_n 1, 1) := by decide +kernel
theorem dX6_join_22 : decode cX6_join 22 = .ok (.invokevirtual 69, 3) := by decide +kernel
theorem dX6_join_25 : decode cX6_join 25 = .ok (.invokestatic 73, 3) := by decide +kernel
theorem dX6_join_28 : decode cX6_join 28 = .ok (.aload_n 0, 1) := by decide +kernel
theorem dX6_join_29 : decode cX6_join 29 = .ok (.getfield 29, 3) := by decide +kernel
theorem dX6_join_32 : decode cX6_join 32 = .ok (.aload_n 0, 1) := by decide +kernel
theorem dX6_join_33 : decode cX6_join 33 = .ok (.getfield 12, 3) := by decide +kernel
theorem dX6_join_36 : decode cX6_join 36 = .ok (.invokevirtual 76, 3) := by decide +kernel
theorem dX6_join_39 : decode cX6_join 39 = .ok (.aload_n 0, 1) := by decide +kernel
theorem dX6_join_40 : decode cX6_join 40 = .ok (.getfield 12, 3) := by decide +kernel
theorem dX6_join_43 : decode cX6_join 43 = .ok (.iload_n 1, 1) := by decide +kernel
theorem dX6_join_44 : decode cX6_join 44 = .ok (.iload_n 2, 1) := by decide +kernel
theorem dX6_join_45 : decode cX6_join 45 = .ok (.iload_n 3, 1) := by decide +kernel
theorem dX6_join_46 : decode cX6_join 46 = .ok (.invokevirtual 80, 3) := by decide +kernel
theorem dX6_join_49 : decode cX6_join 49 = .ok (.ireturn, 1) := by decide +kernel
theorem dX6_leave_0 : decode cX6_leave 0 = .ok (.aload_n 0, 1) := by decide +kernel
theorem dX6_leave_1 : decode cX6_leave 1 = .ok (.iload_n 1, 1) := by decide +kernel
theorem dX6_leave_2 : decode cX6_leave 2 = .ok (.iload_n 2, 1) := by decide +kernel
theorem dX6_leave_3 : decode cX6_leave 3 = .ok (.invokevirtual 84, 3) := by decide +kernel
theorem dX6_leave_6 : decode cX6_leave 6 = .ok (.aload_n 0, 1) := by decide +kernel
theorem dX6_leave_7 : decode cX6_leave 7 = .ok (.getfield 29, 3) := by decide +kernel
theorem dX6_leave_10 : decode cX6_leave 10 = .ok (.aload_n 0, 1) := by decide +kernel
theorem dX6_leave_11 : decode cX6_leave 11 = .ok (.getfield 12, 3) := by decide +kernel
theorem dX6_leave_14 : decode cX6_leave 14 = .ok (.invokevirtual 76, 3) := by decide +kernel
theorem dX6_leave_17 : decode cX6_leave 17 = .ok (.aload_n 0, 1) := by decide +kernel
theorem dX6_leave_18 : decode cX6_leave 18 = .ok (.getfield 12, 3) := by decide +kernel
theorem dX6_leave_21 : decode cX6_leave 21 = .ok (.iload_n 1, 1) := by decide +kernel
theorem dX6_leave_22 : decode cX6_leave 22 = .ok (.iload_n 2, 1) := by decide +kernel
theorem dX6_leave_23 : decode cX6_leave 23 = .ok (.invokevirtual 88, 3) := by decide +kernel
theorem dX6_leave_26 : decode cX6_leave 26 = .ok (.ireturn, 1) := by decide +kernel
theorem dX6_grow_0 : decode cX6_grow 0 = .ok (.aload_n 0, 1) := by decide +kernel
theorem dX6_grow_1 : decode cX6_grow 1 = .ok (.iload_n 1, 1) := by decide +kernel
theorem dX6_grow_2 : decode cX6_grow 2 = .ok (.iload_n 2, 1) := by decide +kernel
theorem dX6_grow_3 : decode cX6_grow 3 = .ok (.invokevirtual 84, 3) := by decide +kernel
theorem dX6_grow_6 : decode cX6_grow 6 = .ok (.iload_n 3, 1) := by decide +kernel
theorem dX6_grow_7 : decode cX6_grow 7 = .ok (.invokestatic 58, 3) := by decide +kernel
theorem dX6_grow_10 : decode cX6_grow 10 = .ok (.aload_n 0, 1) := by decide +kernel
theorem dX6_grow_11 : decode cX6_grow 11 = .ok (.getfield 29, 3) := by decide +kernel
theorem dX6_grow_14 : decode cX6_grow 14 = .ok (.aload_n 0, 1) := by decide +kernel
theorem dX6_grow_15 : decode cX6_grow 15 = .ok (.getfield 12, 3) := by decide +kernel
theorem dX6_grow_18 : decode cX6_grow 18 = .ok (.invokevirtual 76, 3) := by decide +kernel
theorem dX6_grow_21 : decode cX6_grow 21 = .ok (.aload_n 0, 1) := by decide +kernel
theorem dX6_grow_22 : decode cX6_grow 22 = .ok (.getfield 12, 3) := by decide +kernel
theorem dX6_grow_25 : decode cX6_grow 25 = .ok (.iload_n 1, 1) := by decide +kernel
theorem dX6_grow_26 : decode cX6_grow 26 = .ok (.iload_n 2, 1) := by decide +kernel
theorem dX6_grow_27 : decode cX6_grow 27 = .ok (.invokevirtual 92, 3) := by decide +kernel
theorem dX6_grow_30 : decode cX6_grow 30 = .ok (.istore 4, 2) := by decide +kernel
theorem dX6_grow_32 : decode cX6_grow 32 = .ok (.aload_n 0, 1) := by decide +kernel
theorem dX6_grow_33 : decode cX6_grow 33 = .ok (.getfield 12, 3) := by decide +kernel
theorem dX6_grow_36 : decode cX6_grow 36 = .ok (.iload_n 1, 1) := by decide +kernel
theorem dX6_grow_37 : decode cX6_grow 37 = .ok (.iload_n 2, 1) := by decide +kernel
theorem dX6_grow_38 : decode cX6_grow 38 = .ok (.iload_n 3, 1) := by decide +kernel
theorem dX6_grow_39 : decode cX6_grow 39 = .ok (.invokevirtual 95, 3) := by decide +kernel
theorem dX6_grow_42 : decode cX6_grow 42 = .ok (.iload 4, 2) := by decide +kernel
theorem dX6_grow_44 : decode cX6_grow 44 = .ok (.ireturn, 1) := by decide +kernel
theorem dX6_swap_0 : decode cX6_swap 0 = .ok (.aload_n 0, 1) := by decide +kernel
theorem dX6_swap_1 : decode cX6_swap 1 = .ok (.iload_n 1, 1) := by decide +kernel
theorem dX6_swap_2 : decode cX6_swap 2 = .ok (.iload_n 2, 1) := by decide +kernel
theorem dX6_swap_3 : decode cX6_swap 3 = .ok (.invokevirtual 84, 3) := by decide +kernel
theorem dX6_swap_6 : decode cX6_swap 6 = .ok (.aload_n 0, 1) := by decide +kernel
theorem dX6_swap_7 : decode cX6_swap 7 = .ok (.iload_n 3, 1) := by decide +kernel
theorem dX6_swap_8 : decode cX6_swap 8 = .ok (.iload 4, 2) := by decide +kernel
theorem dX6_swap_10 : decode cX6_swap 10 = .ok (.invokevirtual 84, 3) := by decide +kernel
theorem dX6_swap_13 : decode cX6_swap 13 = .ok (.aload_n 0, 1) := by decide +kernel
theorem dX6_swap_14 : decode cX6_swap 14 = .ok (.getfield 29, 3) := by decide +kernel
theorem dX6_swap_17 : decode cX6_swap 17 = .ok (.aload_n 0, 1) := by decide +kernel
theorem dX6_swap_18 : decode cX6_swap 18 = .ok (.getfield 12, 3) := by decide +kernel
theorem dX6_swap_21 : decode cX6_swap 21 = .ok (.invokevirtual 76, 3) := by decide +kernel
theorem dX6_swap_24 : decode cX6_swap 24 = .ok (.aload_n 0, 1) := by decide +kernel
theorem dX6_swap_25 : decode cX6_swap 25 = .ok (.getfield 12, 3) := by decide +kernel
theorem dX6_swap_28 : decode cX6_swap 28 = .ok (.iload_n 1, 1) := by decide +kernel
theorem dX6_swap_29 : decode cX6_swap 29 = .ok (.iload_n 2, 1) := by decide +kernel
theorem dX6_swap_30 : decode cX6_swap 30 = .ok (.iload_n 3, 1) := by decide +kernel
theorem dX6_swap_31 : decode cX6_swap 31 = .ok (.iload 4, 2) := by decide +kernel
theorem dX6_swap_33 : decode cX6_swap 33 = .ok (.invokevirtual 99, 3) := by decide +kernel
theorem dX6_swap_36 : decode cX6_swap 36 = .ok (.aload_n 0, 1) := by decide +kernel
theorem dX6_swap_37 : decode cX6_swap 37 = .ok (.getfield 12, 3) := by decide +kernel
theorem dX6_swap_40 : decode cX6_swap 40 = .ok (.invokevirtual 103, 3) := by decide +kernel
theorem dX6_swap_43 : decode cX6_swap 43 = .ok (.ireturn, 1) := by decide +kernel
theorem dX6_cross_0 : decode cX6_cross 0 = .ok (.aload_n 0, 1) := by decide +kernel
theorem dX6_cross_1 : decode cX6_cross 1 = .ok (.iload_n 1, 1) := by decide +kernel
theorem dX6_cross_2 : decode cX6_cross 2 = .ok (.iload_n 2, 1) := by decide +kernel
theorem dX6_cross_3 : decode cX6_cross 3 = .ok (.invokevirtual 84, 3) := by decide +kernel
theorem dX6_cross_6 : decode cX6_cross 6 = .ok (.iload_n 3, 1) := by decide +kernel
theorem dX6_cross_7 : decode cX6_cross 7 = .ok (.invokestatic 54, 3) := by decide +kernel
theorem dX6_cross_10 : decode cX6_cross 10 = .ok (.iload_n 1, 1) := by decide +kernel
theorem dX6_cross_11 : decode cX6_cross 11 = .ok (.iload_n 3, 1) := by decide +kernel
theorem dX6_cross_12 : decode cX6_cross 12 = .ok (.if_icmp .eq 20, 3) := by decide +kernel
theorem dX6_cross_15 : decode cX6_cross 15 = .ok (.aload_n 0, 1) := by decide +kernel
theorem dX6_cross_16 : decode cX6_cross 16 = .ok (.getfield 12, 3) := by decide +kernel
theorem dX6_cross_19 : decode cX6_cross 19 = .ok (.iload_n 3, 1) := by decide +kernel
theorem dX6_cross_20 : decode cX6_cross 20 = .ok (.invokevirtual 107, 3) := by decide +kernel
theorem dX6_cross_23 : decode cX6_cross 23 = .ok (.bipush 6, 2) := by decide +kernel
theorem dX6_cross_25 : decode cX6_cross 25 = .ok (.if_icmp .ge 7, 3) := by decide +kernel
theorem dX6_cross_28 : decode cX6_cross 28 = .ok (.iconst 1, 1) := by decide +kernel
theorem dX6_cross_29 : decode cX6_cross 29 = .ok (.goto 4, 3) := by decide +kernel
theorem dX6_cross_32 : decode cX6_cross 32 = .ok (.iconst 0, 1) := by decide +kernel
theorem dX6_cross_33 : decode cX6_cross 33 = .ok (.invokestatic 73, 3) := by decide +kernel
theorem dX6_cross_36 : decode cX6_cross 36 = .ok (.aload_n 0, 1) := by decide +kernel
theorem dX6_cross_37 : decode cX6_cross 37 = .ok (.getfield 29, 3) := by decide +kernel
theorem dX6_cross_40 : decode cX6_cross 40 = .ok (.aload_n 0, 1) := by decide +kernel
theorem dX6_cross_41 : decode cX6_cross 41 = .ok (.getfield 12, 3) := by decide +kernel
theorem dX6_cross_44 : decode cX6_cross 44 = .ok (.invokevirtual 76, 3) := by decide +kernel
theorem dX6_cross_47 : decode cX6_cross 47 = .ok (.aload_n 0, 1) := by decide +kernel
theorem dX6_cross_48 : decode cX6_cross 48 = .ok (.getfield 12, 3) := by decide +kernel
theorem dX6_cross_51 : decode cX6_cross 51 = .ok (.iload_n 1, 1) := by decide +kernel
theorem dX6_cross_52 : decode cX6_cross 52 = .ok (.iload_n 2, 1) := by decide +kernel
theorem dX6_cross_53 : decode cX6_cross 53 = .ok (.iload_n 3, 1) := by decide +kernel
theorem dX6_cross_54 : decode cX6_cross 54 = .ok (.invokevirtual 111, 3) := by decide +kernel
theorem dX6_cross_57 : decode cX6_cross 57 = .ok (.ireturn, 1) := by decide +kernel
theorem dX6_turn_0 : decode cX6_turn 0 = .ok (.iload_n 1, 1) := by decide +kernel
theorem dX6_turn_1 : decode cX6_turn 1 = .ok (.invokestatic 54, 3) := by decide +kernel
theorem dX6_turn_4 : decode cX6_turn 4 = .ok (.aload_n 0, 1) := by decide +kernel
theorem dX6_turn_5 : decode cX6_turn 5 = .ok (.getfield 29, 3) := by decide +kernel
theorem dX6_turn_8 : decode cX6_turn 8 = .ok (.aload_n 0, 1) := by decide +kernel
theorem dX6_turn_9 : decode cX6_turn 9 = .ok (.getfield 12, 3) := by decide +kernel
theorem dX6_turn_12 : decode cX6_turn 12 = .ok (.invokevirtual 76, 3) := by decide +kernel
theorem dX6_turn_15 : decode cX6_turn 15 = .ok (.aload_n 0, 1) := by decide +kernel
theorem dX6_turn_16 : decode cX6_turn 16 = .ok (.getfield 12, 3) := by decide +kernel
theorem dX6_turn_19 : decode cX6_turn 19 = .ok (.iload_n 1, 1) := by decide +kernel
theorem dX6_turn_20 : decode cX6_turn 20 = .ok (.invokevirtual 114, 3) := by decide +kernel
theorem dX6_turn_23 : decode cX6_turn 23 = .ok (.aload_n 0, 1) := by decide +kernel
theorem dX6_turn_24 : decode cX6_turn 24 = .ok (.getfield 12, 3) := by decide +kernel
theorem dX6_turn_27 : decode cX6_turn 27 = .ok (.invokevirtual 103, 3) := by decide +kernel
theorem dX6_turn_30 : decode cX6_turn 30 = .ok (.ireturn, 1) := by decide +kernel
theorem dX6_sort_0 : decode cX6_sort 0 = .ok (.iload_n 1, 1) := by decide +kernel
theorem dX6_sort_1 : decode cX6_sort 1 = .ok (.invokestatic 54, 3) := by decide +kernel
theorem dX6_sort_4 : decode cX6_sort 4 = .ok (.iload_n 2, 1) := by decide +kernel
theorem dX6_sort_5 : decode cX6_sort 5 = .ok (.iconst 0, 1) := by decide +kernel
theorem dX6_sort_6 : decode cX6_sort 6 = .ok (.iconst 2, 1) := by decide +kernel
theorem dX6_sort_7 : decode cX6_sort 7 = .ok (.invokestatic 61, 3) := by decide +kernel
theorem dX6_sort_10 : decode cX6_sort 10 = .ok (.invokestatic 65, 3) := by decide +kernel
theorem dX6_sort_13 : decode cX6_sort 13 = .ok (.aload_n 0, 1) := by decide +kernel
theorem dX6_sort_14 : decode cX6_sort 14 = .ok (.getfield 29, 3) := by decide +kernel
theorem dX6_sort_17 : decode cX6_sort 17 = .ok (.aload_n 0, 1) := by decide +kernel
theorem dX6_sort_18 : decode cX6_sort 18 = .ok (.getfield 12, 3) := by decide +kernel
theorem dX6_sort_21 : decode cX6_sort 21 = .ok (.invokevirtual 76, 3) := by decide +kernel
theorem dX6_sort_24 : decode cX6_sort 24 = .ok (.aload_n 0, 1) := by decide +kernel
theorem dX6_sort_25 : decode cX6_sort 25 = .ok (.getfield 12, 3) := by decide +kernel
theorem dX6_sort_28 : decode cX6_sort 28 = .ok (.iload_n 1, 1) := by decide +kernel
theorem dX6_sort_29 : decode cX6_sort 29 = .ok (.iload_n 2, 1) := by decide +kernel
theorem dX6_sort_30 : decode cX6_sort 30 = .ok (.invokevirtual 117, 3) := by decide +kernel
theorem dX6_sort_33 : decode cX6_sort 33 = .ok (.aload_n 0, 1) := by decide +kernel
theorem dX6_sort_34 : decode cX6_sort 34 = .ok (.getfield 12, 3) := by decide +kernel
theorem dX6_sort_37 : decode cX6_sort 37 = .ok (.iload_n 1, 1) := by decide +kernel
theorem dX6_sort_38 : decode cX6_sort 38 = .ok (.invokevirtual 120, 3) := by decide +kernel
theorem dX6_sort_41 : decode cX6_sort 41 = .ok (.ireturn, 1) := by decide +kernel
theorem dX6_set_0 : decode cX6_set 0 = .ok (.iload_n 1, 1) := by decide +kernel
theorem dX6_set_1 : decode cX6_set 1 = .ok (.iconst 0, 1) := by decide +kernel
theorem dX6_set_2 : decode cX6_set 2 = .ok (.iconst 1, 1) := by decide +kernel
theorem dX6_set_3 : decode cX6_set 3 = .ok (.invokestatic 61, 3) := by decide +kernel
theorem dX6_set_6 : decode cX6_set 6 = .ok (.invokestatic 123, 3) := by decide +kernel
theorem dX6_set_9 : decode cX6_set 9 = .ok (.iload_n 1, 1) := by decide +kernel
theorem dX6_set_10 : decode cX6_set 10 = .ok (.ifCond .ne 13, 3) := by decide +kernel
theorem dX6_set_13 : decode cX6_set 13 = .ok (.iload_n 2, 1) := by decide +kernel
theorem dX6_set_14 : decode cX6_set 14 = .ok (.iconst 1, 1) := by decide +kernel
theorem dX6_set_15 : decode cX6_set 15 = .ok (.bipush 6, 2) := by decide +kernel
theorem dX6_set_17 : decode cX6_set 17 = .ok (.invokestatic 61, 3) := by decide +kernel
theorem dX6_set_20 : decode cX6_set 20 = .ok (.goto 9, 3) := by decide +kernel
theorem dX6_set_23 : decode cX6_set 23 = .ok (.iload_n 2, 1) := by decide +kernel
theorem dX6_set_24 : decode cX6_set 24 = .ok (.iconst 0, 1) := by decide +kernel
theorem dX6_set_25 : decode cX6_set 25 = .ok (.iconst 1, 1) := by decide +kernel
theorem dX6_set_26 : decode cX6_set 26 = .ok (.invokestatic 61, 3) := by decide +kernel
theorem dX6_set_29 : decode cX6_set 29 = .ok (.invokestatic 65, 3) := by decide +kernel
theorem dX6_set_32 : decode cX6_set 32 = .ok (.aload_n 0, 1) := by decide +kernel
theorem dX6_set_33 : decode cX6_set 33 = .ok (.getfield 29, 3) := by decide +kernel
theorem dX6_set_36 : decode cX6_set 36 = .ok (.aload_n 0, 1) := by decide +kernel
theorem dX6_set_37 : decode cX6_set 37 = .ok (.getfield 12, 3) := by decide +kernel
theorem dX6_set_40 : decode cX6_set 40 = .ok (.invokevirtual 76, 3) := by decide +kernel
theorem dX6_set_43 : decode cX6_set 43 = .ok (.aload_n 0, 1) := by decide +kernel
theorem dX6_set_44 : decode cX6_set 44 = .ok (.getfield 12, 3) := by decide +kernel
theorem dX6_set_47 : decode cX6_set 47 = .ok (.iload_n 1, 1) := by decide +kernel
theorem dX6_set_48 : decode cX6_set 48 = .ok (.invokevirtual 126, 3) := by decide +kernel
theorem dX6_set_51 : decode cX6_set 51 = .ok (.istore_n 3, 1) := by decide +kernel
theorem dX6_set_52 : decode cX6_set 52 = .ok (.aload_n 0, 1) := by decide +kernel
theorem dX6_set_53 : decode cX6_set 53 = .ok (.getfield 12, 3) := by decide +kernel
theorem dX6_set_56 : decode cX6_set 56 = .ok (.iload_n 1, 1) := by decide +kernel
theorem dX6_set_57 : decode cX6_set 57 = .ok (.iload_n 2, 1) := by decide +kernel
theorem dX6_set_58 : decode cX6_set 58 = .ok (.invokevirtual 129, 3) := by decide +kernel
theorem dX6_set_61 : decode cX6_set 61 = .ok (.iload_n 3, 1) := by decide +kernel
theorem dX6_set_62 : decode cX6_set 62 = .ok (.ireturn, 1) := by decide +kernel
theorem dX6_append_0 : decode cX6_append 0 = .ok (.iload_n 1, 1) := by decide +kernel
theorem dX6_append_1 : decode cX6_append 1 = .ok (.bipush 33, 2) := by decide +kernel
theorem dX6_append_3 : decode cX6_append 3 = .ok (.bipush 126, 2) := by decide +kernel
theorem dX6_append_5 : decode cX6_append 5 = .ok (.invokestatic 61, 3) := by decide +kernel
theorem dX6_append_8 : decode cX6_append 8 = .ok (.invokestatic 65, 3) := by decide +kernel
theorem dX6_append_11 : decode cX6_append 11 = .ok (.aload_n 0, 1) := by decide +kernel
theorem dX6_append_12 : decode cX6_append 12 = .ok (.getfield 36, 3) := by decide +kernel
theorem dX6_append_15 : decode cX6_append 15 = .ok (.invokevirtual 132, 3) := by decide +kernel
theorem dX6_append_18 : decode cX6_append 18 = .ok (.bipush 60, 2) := by decide +kernel
theorem dX6_append_20 : decode cX6_append 20 = .ok (.if_icmp .ge 7, 3) := by decide +kernel
theorem dX6_append_23 : decode cX6_append 23 = .ok (.iconst 1, 1) := by decide +kernel
theorem dX6_append_24 : decode cX6_append 24 = .ok (.goto 4, 3) := by decide +kernel
theorem dX6_append_27 : decode cX6_append 27 = .ok (.iconst 0, 1) := by decide +kernel
theorem dX6_append_28 : decode cX6_append 28 = .ok (.invokestatic 73, 3) := by decide +kernel
theorem dX6_append_31 : decode cX6_append 31 = .ok (.aload_n 0, 1) := by decide +kernel
theorem dX6_append_32 : decode cX6_append 32 = .ok (.getfield 36, 3) := by decide +kernel
theorem dX6_append_35 : decode cX6_append 35 = .ok (.iload_n 1, 1) := by decide +kernel
theorem dX6_append_36 : decode cX6_append 36 = .ok (.i2c, 1) := by decide +kernel
theorem dX6_append_37 : decode cX6_append 37 = .ok (.invokevirtual 135, 3) := by decide +kernel
theorem dX6_append_40 : decode cX6_append 40 = .ok (.aload_n 0, 1) := by decide +kernel
theorem dX6_append_41 : decode cX6_append 41 = .ok (.getfield 36, 3) := by decide +kernel
theorem dX6_append_44 : decode cX6_append 44 = .ok (.invokevirtual 132, 3) := by decide +kernel
theorem dX6_append_47 : decode cX6_append 47 = .ok (.ireturn, 1) := by decide +kernel
theorem dX6_clearBuffer_0 : decode cX6_clearBuffer 0 = .ok (.aload_n 0, 1) := by decide +kernel
theorem dX6_clearBuffer_1 : decode cX6_clearBuffer 1 = .ok (.getfield 36, 3) := by decide +kernel
theorem dX6_clearBuffer_4 : decode cX6_clearBuffer 4 = .ok (.invokevirtual 132, 3) := by decide +kernel
theorem dX6_clearBuffer_7 : decode cX6_clearBuffer 7 = .ok (.istore_n 1, 1) := by decide +kernel
theorem dX6_clearBuffer_8 : decode cX6_clearBuffer 8 = .ok (.aload_n 0, 1) := by decide +kernel
theorem dX6_clearBuffer_9 : decode cX6_clearBuffer 9 = .ok (.getfield 36, 3) := by decide +kernel
theorem dX6_clearBuffer_12 : decode cX6_clearBuffer 12 = .ok (.invokevirtual 139, 3) := by decide +kernel
theorem dX6_clearBuffer_15 : decode cX6_clearBuffer 15 = .ok (.iload_n 1, 1) := by decide +kernel
theorem dX6_clearBuffer_16 : decode cX6_clearBuffer 16 = .ok (.ireturn, 1) := by decide +kernel
theorem dX6_firstError_0 : decode cX6_firstError 0 = .ok (.aload_n 0, 1) := by decide +kernel
theorem dX6_firstError_1 : decode cX6_firstError 1 = .ok (.getfield 36, 3) := by decide +kernel
theorem dX6_firstError_4 : decode cX6_firstError 4 = .ok (.invokevirtual 142, 3) := by decide +kernel
theorem dX6_firstError_7 : decode cX6_firstError 7 = .ok (.ireturn, 1) := by decide +kernel
theorem dX6_chant_0 : decode cX6_chant 0 = .ok (.aload_n 0, 1) := by decide +kernel
theorem dX6_chant_1 : decode cX6_chant 1 = .ok (.getfield 36, 3) := by decide +kernel
theorem dX6_chant_4 : decode cX6_chant 4 = .ok (.invokevirtual 145, 3) := by decide +kernel
theorem dX6_chant_7 : decode cX6_chant 7 = .ok (.invokestatic 65, 3) := by decide +kernel
theorem dX6_chant_10 : decode cX6_chant 10 = .ok (.aload_n 0, 1) := by decide +kernel
theorem dX6_chant_11 : decode cX6_chant 11 = .ok (.getfield 29, 3) := by decide +kernel
theorem dX6_chant_14 : decode cX6_chant 14 = .ok (.aload_n 0, 1) := by decide +kernel
theorem dX6_chant_15 : decode cX6_chant 15 = .ok (.getfield 12, 3) := by decide +kernel
theorem dX6_chant_18 : decode cX6_chant 18 = .ok (.invokevirtual 76, 3) := by decide +kernel
theorem dX6_chant_21 : decode cX6_chant 21 = .ok (.iconst 0, 1) := by decide +kernel
theorem dX6_chant_22 : decode cX6_chant 22 = .ok (.istore_n 1, 1) := by decide +kernel
theorem dX6_chant_23 : decode cX6_chant 23 = .ok (.iconst 0, 1) := by decide +kernel
theorem dX6_chant_24 : decode cX6_chant 24 = .ok (.istore_n 2, 1) := by decide +kernel
theorem dX6_chant_25 : decode cX6_chant 25 = .ok (.iload_n 1, 1) := by decide +kernel
theorem dX6_chant_26 : decode cX6_chant 26 = .ok (.bipush 60, 2) := by decide +kernel
theorem dX6_chant_28 : decode cX6_chant 28 = .ok (.if_icmp .ge 39, 3) := by decide +kernel
theorem dX6_chant_31 : decode cX6_chant 31 = .ok (.iload_n 2, 1) := by decide +kernel
theorem dX6_chant_32 : decode cX6_chant 32 = .ok (.aload_n 0, 1) := by decide +kernel
theorem dX6_chant_33 : decode cX6_chant 33 = .ok (.getfield 36, 3) := by decide +kernel
theorem dX6_chant_36 : decode cX6_chant 36 = .ok (.invokevirtual 132, 3) := by decide +kernel
theorem dX6_chant_39 : decode cX6_chant 39 = .ok (.if_icmp .ge 28, 3) := by decide +kernel
theorem dX6_chant_42 : decode cX6_chant 42 = .ok (.aload_n 0, 1) := by decide +kernel
theorem dX6_chant_43 : decode cX6_chant 43 = .ok (.iload_n 2, 1) := by decide +kernel
theorem dX6_chant_44 : decode cX6_chant 44 = .ok (.invokevirtual 149, 3) := by decide +kernel
theorem dX6_chant_47 : decode cX6_chant 47 = .ok (.ifCond .eq 20, 3) := by decide +kernel
theorem dX6_chant_50 : decode cX6_chant 50 = .ok (.iinc 1 1, 3) := by decide +kernel
theorem dX6_chant_53 : decode cX6_chant 53 = .ok (.aload_n 0, 1) := by decide +kernel
theorem dX6_chant_54 : decode cX6_chant 54 = .ok (.getfield 36, 3) := by decide +kernel
theorem dX6_chant_57 : decode cX6_chant 57 = .ok (.iload_n 2, 1) := by decide +kernel
theorem dX6_chant_58 : decode cX6_chant 58 = .ok (.invokevirtual 152, 3) := by decide +kernel
theorem dX6_chant_61 : decode cX6_chant 61 = .ok (.iconst 1, 1) := by decide +kernel
theorem dX6_chant_62 : decode cX6_chant 62 = .ok (.iadd, 1) := by decide +kernel
theorem dX6_chant_63 : decode cX6_chant 63 = .ok (.istore_n 2, 1) := by decide +kernel
theorem dX6_chant_64 : decode cX6_chant 64 = .ok (.goto (-39), 3) := by decide +kernel
theorem dX6_chant_67 : decode cX6_chant 67 = .ok (.aload_n 0, 1) := by decide +kernel
theorem dX6_chant_68 : decode cX6_chant 68 = .ok (.getfield 36, 3) := by decide +kernel
theorem dX6_chant_71 : decode cX6_chant 71 = .ok (.invokevirtual 139, 3) := by decide +kernel
theorem dX6_chant_74 : decode cX6_chant 74 = .ok (.iload_n 1, 1) := by decide +kernel
theorem dX6_chant_75 : decode cX6_chant 75 = .ok (.ireturn, 1) := by decide +kernel
theorem dX6_written_0 : decode cX6_written 0 = .ok (.iload_n 1, 1) := by decide +kernel
theorem dX6_written_1 : decode cX6_written 1 = .ok (.invokestatic 54, 3) := by decide +kernel
theorem dX6_written_4 : decode cX6_written 4 = .ok (.iload_n 2, 1) := by decide +kernel
theorem dX6_written_5 : decode cX6_written 5 = .ok (.ifCond .lt 7, 3) := by decide +kernel
theorem dX6_written_8 : decode cX6_written 8 = .ok (.iconst 1, 1) := by decide +kernel
theorem dX6_written_9 : decode cX6_written 9 = .ok (.goto 4, 3) := by decide +kernel
theorem dX6_written_12 : decode cX6_written 12 = .ok (.iconst 0, 1) := by decide +kernel
theorem dX6_written_13 : decode cX6_written 13 = .ok (.invokestatic 65, 3) := by decide +kernel
theorem dX6_written_16 : decode cX6_written 16 = .ok (.aload_n 0, 1) := by decide +kernel
theorem dX6_written_17 : decode cX6_written 17 = .ok (.getfield 12, 3) := by decide +kernel
theorem dX6_written_20 : decode cX6_written 20 = .ok (.iload_n 1, 1) := by decide +kernel
theorem dX6_written_21 : decode cX6_written 21 = .ok (.iload_n 2, 1) := by decide +kernel
theorem dX6_written_22 : decode cX6_written 22 = .ok (.invokevirtual 155, 3) := by decide +kernel
theorem dX6_written_25 : decode cX6_written 25 = .ok (.ireturn, 1) := by decide +kernel
theorem dX6_undo_0 : decode cX6_undo 0 = .ok (.aload_n 0, 1) := by decide +kernel
theorem dX6_undo_1 : decode cX6_undo 1 = .ok (.getfield 29, 3) := by decide +kernel
theorem dX6_undo_4 : decode cX6_undo 4 = .ok (.invokevirtual 158, 3) := by decide +kernel
theorem dX6_undo_7 : decode cX6_undo 7 = .ok (.ifCond .le 7, 3) := by decide +kernel
theorem dX6_undo_10 : decode cX6_undo 10 = .ok (.iconst 1, 1) := by decide +kernel
theorem dX6_undo_11 : decode cX6_undo 11 = .ok (.goto 4, 3) := by decide +kernel
theorem dX6_undo_14 : decode cX6_undo 14 = .ok (.iconst 0, 1) := by decide +kernel
theorem dX6_undo_15 : decode cX6_undo 15 = .ok (.invokestatic 73, 3) := by decide +kernel
theorem dX6_undo_18 : decode cX6_undo 18 = .ok (.aload_n 0, 1) := by decide +kernel
theorem dX6_undo_19 : decode cX6_undo 19 = .ok (.getfield 29, 3) := by decide +kernel
theorem dX6_undo_22 : decode cX6_undo 22 = .ok (.aload_n 0, 1) := by decide +kernel
theorem dX6_undo_23 : decode cX6_undo 23 = .ok (.getfield 12, 3) := by decide +kernel
theorem dX6_undo_26 : decode cX6_undo 26 = .ok (.invokevirtual 159, 3) := by decide +kernel
theorem dX6_undo_29 : decode cX6_undo 29 = .ok (.aload_n 0, 1) := by decide +kernel
theorem dX6_undo_30 : decode cX6_undo 30 = .ok (.getfield 29, 3) := by decide +kernel
theorem dX6_undo_33 : decode cX6_undo 33 = .ok (.invokevirtual 158, 3) := by decide +kernel
theorem dX6_undo_36 : decode cX6_undo 36 = .ok (.ireturn, 1) := by decide +kernel
theorem dX6_keep_0 : decode cX6_keep 0 = .ok (.aload_n 0, 1) := by decide +kernel
theorem dX6_keep_1 : decode cX6_keep 1 = .ok (.getfield 19, 3) := by decide +kernel
theorem dX6_keep_4 : decode cX6_keep 4 = .ok (.aload_n 0, 1) := by decide +kernel
theorem dX6_keep_5 : decode cX6_keep 5 = .ok (.getfield 12, 3) := by decide +kernel
theorem dX6_keep_8 : decode cX6_keep 8 = .ok (.invokevirtual 162, 3) := by decide +kernel
theorem dX6_keep_11 : decode cX6_keep 11 = .ok (.aload_n 0, 1) := by decide +kernel
theorem dX6_keep_12 : decode cX6_keep 12 = .ok (.iconst 1, 1) := by decide +kernel
theorem dX6_keep_13 : decode cX6_keep 13 = .ok (.putfield 22, 3) := by decide +kernel
theorem dX6_keep_16 : decode cX6_keep 16 = .ok (.aload_n 0, 1) := by decide +kernel
theorem dX6_keep_17 : decode cX6_keep 17 = .ok (.getfield 12, 3) := by decide +kernel
theorem dX6_keep_20 : decode cX6_keep 20 = .ok (.invokevirtual 165, 3) := by decide +kernel
theorem dX6_keep_23 : decode cX6_keep 23 = .ok (.ireturn, 1) := by decide +kernel
theorem dX6_restore_0 : decode cX6_restore 0 = .ok (.aload_n 0, 1) := by decide +kernel
theorem dX6_restore_1 : decode cX6_restore 1 = .ok (.getfield 22, 3) := by decide +kernel
theorem dX6_restore_4 : decode cX6_restore 4 = .ok (.invokestatic 73, 3) := by decide +kernel
theorem dX6_restore_7 : decode cX6_restore 7 = .ok (.aload_n 0, 1) := by decide +kernel
theorem dX6_restore_8 : decode cX6_restore 8 = .ok (.getfield 29, 3) := by decide +kernel
theorem dX6_restore_11 : decode cX6_restore 11 = .ok (.aload_n 0, 1) := by decide +kernel
theorem dX6_restore_12 : decode cX6_restore 12 = .ok (.getfield 12, 3) := by decide +kernel
theorem dX6_restore_15 : decode cX6_restore 15 = .ok (.invokevirtual 76, 3) := by decide +kernel
theorem dX6_restore_18 : decode cX6_restore 18 = .ok (.aload_n 0, 1) := by decide +kernel
theorem dX6_restore_19 : decode cX6_restore 19 = .ok (.getfield 12, 3) := by decide +kernel
theorem dX6_restore_22 : decode cX6_restore 22 = .ok (.aload_n 0, 1) := by decide +kernel
theorem dX6_restore_23 : decode cX6_restore 23 = .ok (.getfield 19, 3) := by decide +kernel
theorem dX6_restore_26 : decode cX6_restore 26 = .ok (.invokevirtual 162, 3) := by decide +kernel
theorem dX6_restore_29 : decode cX6_restore 29 = .ok (.aload_n 0, 1) := by decide +kernel
theorem dX6_restore_30 : decode cX6_restore 30 = .ok (.getfield 12, 3) := by decide +kernel
theorem dX6_restore_33 : decode cX6_restore 33 = .ok (.invokevirtual 165, 3) := by decide +kernel
theorem dX6_restore_36 : decode cX6_restore 36 = .ok (.ireturn, 1) := by decide +kernel
theorem dX6_singer_0 : decode cX6_singer 0 = .ok (.aload_n 0, 1) := by decide +kernel
theorem dX6_singer_1 : decode cX6_singer 1 = .ok (.iload_n 1, 1) := by decide +kernel
theorem dX6_singer_2 : decode cX6_singer 2 = .ok (.iload_n 2, 1) := by decide +kernel
theorem dX6_singer_3 : decode cX6_singer 3 = .ok (.invokevirtual 84, 3) := by decide +kernel
theorem dX6_singer_6 : decode cX6_singer 6 = .ok (.iload_n 3, 1) := by decide +kernel
theorem dX6_singer_7 : decode cX6_singer 7 = .ok (.iconst 0, 1) := by decide +kernel
theorem dX6_singer_8 : decode cX6_singer 8 = .ok (.bipush 7, 2) := by decide +kernel
theorem dX6_singer_10 : decode cX6_singer 10 = .ok (.invokestatic 61, 3) := by decide +kernel
theorem dX6_singer_13 : decode cX6_singer 13 = .ok (.invokestatic 65, 3) := by decide +kernel
theorem dX6_singer_16 : decode cX6_singer 16 = .ok (.aload_n 0, 1) := by decide +kernel
theorem dX6_singer_17 : decode cX6_singer 17 = .ok (.iload_n 1, 1) := by decide +kernel
theorem dX6_singer_18 : decode cX6_singer 18 = .ok (.iload_n 2, 1) := by decide +kernel
theorem dX6_singer_19 : decode cX6_singer 19 = .ok (.iload_n 3, 1) := by decide +kernel
theorem dX6_singer_20 : decode cX6_singer 20 = .ok (.invokevirtual 168, 3) := by decide +kernel
theorem dX6_singer_23 : decode cX6_singer 23 = .ok (.ireturn, 1) := by decide +kernel
theorem dX6_row_0 : decode cX6_row 0 = .ok (.iload_n 1, 1) := by decide +kernel
theorem dX6_row_1 : decode cX6_row 1 = .ok (.invokestatic 54, 3) := by decide +kernel
theorem dX6_row_4 : decode cX6_row 4 = .ok (.iload_n 2, 1) := by decide +kernel
theorem dX6_row_5 : decode cX6_row 5 = .ok (.iconst 0, 1) := by decide +kernel
theorem dX6_row_6 : decode cX6_row 6 = .ok (.bipush 6, 2) := by decide +kernel
theorem dX6_row_8 : decode cX6_row 8 = .ok (.invokestatic 61, 3) := by decide +kernel
theorem dX6_row_11 : decode cX6_row 11 = .ok (.invokestatic 65, 3) := by decide +kernel
theorem dX6_row_14 : decode cX6_row 14 = .ok (.aload_n 0, 1) := by decide +kernel
theorem dX6_row_15 : decode cX6_row 15 = .ok (.iload_n 1, 1) := by decide +kernel
theorem dX6_row_16 : decode cX6_row 16 = .ok (.iload_n 2, 1) := by decide +kernel
theorem dX6_row_17 : decode cX6_row 17 = .ok (.invokevirtual 171, 3) := by decide +kernel
theorem dX6_row_20 : decode cX6_row 20 = .ok (.ireturn, 1) := by decide +kernel
theorem dX6_find_0 : decode cX6_find 0 = .ok (.iload_n 1, 1) := by decide +kernel
theorem dX6_find_1 : decode cX6_find 1 = .ok (.ifCond .lt 7, 3) := by decide +kernel
theorem dX6_find_4 : decode cX6_find 4 = .ok (.iconst 1, 1) := by decide +kernel
theorem dX6_find_5 : decode cX6_find 5 = .ok (.goto 4, 3) := by decide +kernel
theorem dX6_find_8 : decode cX6_find 8 = .ok (.iconst 0, 1) := by decide +kernel
theorem dX6_find_9 : decode cX6_find 9 = .ok (.invokestatic 65, 3) := by decide +kernel
theorem dX6_find_12 : decode cX6_find 12 = .ok (.aload_n 0, 1) := by decide +kernel
theorem dX6_find_13 : decode cX6_find 13 = .ok (.getfield 12, 3) := by decide +kernel
theorem dX6_find_16 : decode cX6_find 16 = .ok (.iload_n 1, 1) := by decide +kernel
theorem dX6_find_17 : decode cX6_find 17 = .ok (.invokevirtual 174, 3) := by decide +kernel
theorem dX6_find_20 : decode cX6_find 20 = .ok (.ireturn, 1) := by decide +kernel
theorem dX6_count_0 : decode cX6_count 0 = .ok (.iload_n 1, 1) := by decide +kernel
theorem dX6_count_1 : decode cX6_count 1 = .ok (.iconst 0, 1) := by decide +kernel
theorem dX6_count_2 : decode cX6_count 2 = .ok (.bipush 8, 2) := by decide +kernel
theorem dX6_count_4 : decode cX6_count 4 = .ok (.invokestatic 61, 3) := by decide +kernel
theorem dX6_count_7 : decode cX6_count 7 = .ok (.invokestatic 65, 3) := by decide +kernel
theorem dX6_count_10 : decode cX6_count 10 = .ok (.aload_n 0, 1) := by decide +kernel
theorem dX6_count_11 : decode cX6_count 11 = .ok (.iload_n 1, 1) := by decide +kernel
theorem dX6_count_12 : decode cX6_count 12 = .ok (.invokevirtual 177, 3) := by decide +kernel
theorem dX6_count_15 : decode cX6_count 15 = .ok (.ireturn, 1) := by decide +kernel
theorem dX6_ifSwapped_0 : decode cX6_ifSwapped 0 = .ok (.aload_n 0, 1) := by decide +kernel
theorem dX6_ifSwapped_1 : decode cX6_ifSwapped 1 = .ok (.iload_n 1, 1) := by decide +kernel
theorem dX6_ifSwapped_2 : decode cX6_ifSwapped 2 = .ok (.iload_n 2, 1) := by decide +kernel
theorem dX6_ifSwapped_3 : decode cX6_ifSwapped 3 = .ok (.invokevirtual 84, 3) := by decide +kernel
theorem dX6_ifSwapped_6 : decode cX6_ifSwapped 6 = .ok (.aload_n 0, 1) := by decide +kernel
theorem dX6_ifSwapped_7 : decode cX6_ifSwapped 7 = .ok (.iload_n 3, 1) := by decide +kernel
theorem dX6_ifSwapped_8 : decode cX6_ifSwapped 8 = .ok (.iload 4, 2) := by decide +kernel
theorem dX6_ifSwapped_10 : decode cX6_ifSwapped 10 = .ok (.invokevirtual 84, 3) := by decide +kernel
theorem dX6_ifSwapped_13 : decode cX6_ifSwapped 13 = .ok (.aload_n 0, 1) := by decide +kernel
theorem dX6_ifSwapped_14 : decode cX6_ifSwapped 14 = .ok (.getfield 16, 3) := by decide +kernel
theorem dX6_ifSwapped_17 : decode cX6_ifSwapped 17 = .ok (.aload_n 0, 1) := by decide +kernel
theorem dX6_ifSwapped_18 : decode cX6_ifSwapped 18 = .ok (.getfield 12, 3) := by decide +kernel
theorem dX6_ifSwapped_21 : decode cX6_ifSwapped 21 = .ok (.invokevirtual 162, 3) := by decide +kernel
theorem dX6_ifSwapped_24 : decode cX6_ifSwapped 24 = .ok (.aload_n 0, 1) := by decide +kernel
theorem dX6_ifSwapped_25 : decode cX6_ifSwapped 25 = .ok (.getfield 16, 3) := by decide +kernel
theorem dX6_ifSwapped_28 : decode cX6_ifSwapped 28 = .ok (.iload_n 1, 1) := by decide +kernel
theorem dX6_ifSwapped_29 : decode cX6_ifSwapped 29 = .ok (.iload_n 2, 1) := by decide +kernel
theorem dX6_ifSwapped_30 : decode cX6_ifSwapped 30 = .ok (.iload_n 3, 1) := by decide +kernel
theorem dX6_ifSwapped_31 : decode cX6_ifSwapped 31 = .ok (.iload 4, 2) := by decide +kernel
theorem dX6_ifSwapped_33 : decode cX6_ifSwapped 33 = .ok (.invokevirtual 180, 3) := by decide +kernel
theorem dX6_ifSwapped_36 : decode cX6_ifSwapped 36 = .ok (.aload_n 0, 1) := by decide +kernel
theorem dX6_ifSwapped_37 : decode cX6_ifSwapped 37 = .ok (.getfield 16, 3) := by decide +kernel
theorem dX6_ifSwapped_40 : decode cX6_ifSwapped 40 = .ok (.invokevirtual 103, 3) := by decide +kernel
theorem dX6_ifSwapped_43 : decode cX6_ifSwapped 43 = .ok (.ireturn, 1) := by decide +kernel
theorem dX6_bestSwap_0 : decode cX6_bestSwap 0 = .ok (.iload_n 1, 1) := by decide +kernel
theorem dX6_bestSwap_1 : decode cX6_bestSwap 1 = .ok (.invokestatic 54, 3) := by decide +kernel
theorem dX6_bestSwap_4 : decode cX6_bestSwap 4 = .ok (.aload_n 0, 1) := by decide +kernel
theorem dX6_bestSwap_5 : decode cX6_bestSwap 5 = .ok (.iload_n 1, 1) := by decide +kernel
theorem dX6_bestSwap_6 : decode cX6_bestSwap 6 = .ok (.invokevirtual 183, 3) := by decide +kernel
theorem dX6_bestSwap_9 : decode cX6_bestSwap 9 = .ok (.ireturn, 1) := by decide +kernel
theorem dX6_bestRow_0 : decode cX6_bestRow 0 = .ok (.iload_n 1, 1) := by decide +kernel
theorem dX6_bestRow_1 : decode cX6_bestRow 1 = .ok (.invokestatic 58, 3) := by decide +kernel
theorem dX6_bestRow_4 : decode cX6_bestRow 4 = .ok (.aload_n 0, 1) := by decide +kernel
theorem dX6_bestRow_5 : decode cX6_bestRow 5 = .ok (.iload_n 1, 1) := by decide +kernel
theorem dX6_bestRow_6 : decode cX6_bestRow 6 = .ok (.invokevirtual 186, 3) := by decide +kernel
theorem dX6_bestRow_9 : decode cX6_bestRow 9 = .ok (.ireturn, 1) := by decide +kernel
theorem dX6_ifReach_0 : decode cX6_ifReach 0 = .ok (.iload_n 1, 1) := by decide +kernel
theorem dX6_ifReach_1 : decode cX6_ifReach 1 = .ok (.iconst 1, 1) := by decide +kernel
theorem dX6_ifReach_2 : decode cX6_ifReach 2 = .ok (.bipush 6, 2) := by decide +kernel
theorem dX6_ifReach_4 : decode cX6_ifReach 4 = .ok (.invokestatic 61, 3) := by decide +kernel
theorem dX6_ifReach_7 : decode cX6_ifReach 7 = .ok (.invokestatic 65, 3) := by decide +kernel
theorem dX6_ifReach_10 : decode cX6_ifReach 10 = .ok (.aload_n 0, 1) := by decide +kernel
theorem dX6_ifReach_11 : decode cX6_ifReach 11 = .ok (.iload_n 1, 1) := by decide +kernel
theorem dX6_ifReach_12 : decode cX6_ifReach 12 = .ok (.invokevirtual 189, 3) := by decide +kernel
theorem dX6_ifReach_15 : decode cX6_ifReach 15 = .ok (.ireturn, 1) := by decide +kernel
theorem dX6_oddShare_0 : decode cX6_oddShare 0 = .ok (.aload_n 0, 1) := by decide +kernel
theorem dX6_oddShare_1 : decode cX6_oddShare 1 = .ok (.getfield 12, 3) := by decide +kernel
theorem dX6_oddShare_4 : decode cX6_oddShare 4 = .ok (.invokevirtual 165, 3) := by decide +kernel
theorem dX6_oddShare_7 : decode cX6_oddShare 7 = .ok (.istore_n 1, 1) := by decide +kernel
theorem dX6_oddShare_8 : decode cX6_oddShare 8 = .ok (.iload_n 1, 1) := by decide +kernel
theorem dX6_oddShare_9 : decode cX6_oddShare 9 = .ok (.ifCond .le 17, 3) := by decide +kernel
theorem dX6_oddShare_12 : decode cX6_oddShare 12 = .ok (.aload_n 0, 1) := by decide +kernel
theorem dX6_oddShare_13 : decode cX6_oddShare 13 = .ok (.getfield 12, 3) := by decide +kernel
theorem dX6_oddShare_16 : decode cX6_oddShare 16 = .ok (.invokevirtual 103, 3) := by decide +kernel
theorem dX6_oddShare_19 : decode cX6_oddShare 19 = .ok (.i2d, 1) := by decide +kernel
theorem dX6_oddShare_20 : decode cX6_oddShare 20 = .ok (.iload_n 1, 1) := by decide +kernel
theorem dX6_oddShare_21 : decode cX6_oddShare 21 = .ok (.i2d, 1) := by decide +kernel
theorem dX6_oddShare_22 : decode cX6_oddShare 22 = .ok (.ddiv, 1) := by decide +kernel
theorem dX6_oddShare_23 : decode cX6_oddShare 23 = .ok (.goto 4, 3) := by decide +kernel
theorem dX6_oddShare_26 : decode cX6_oddShare 26 = .ok (.dconst 1, 1) := by decide +kernel
theorem dX6_oddShare_27 : decode cX6_oddShare 27 = .ok (.dreturn, 1) := by decide +kernel
theorem dX6_digest_0 : decode cX6_digest 0 = .ok (.ldc2_w 192, 3) := by decide +kernel
theorem dX6_digest_3 : decode cX6_digest 3 = .ok (.lstore_n 1, 1) := by decide +kernel
theorem dX6_digest_4 : decode cX6_digest 4 = .ok (.iconst 0, 1) := by decide +kernel
theorem dX6_digest_5 : decode cX6_digest 5 = .ok (.istore_n 3, 1) := by decide +kernel
theorem dX6_digest_6 : decode cX6_digest 6 = .ok (.iload_n 3, 1) := by decide +kernel
theorem dX6_digest_7 : decode cX6_digest 7 = .ok (.bipush 8, 2) := by decide +kernel
theorem dX6_digest_9 : decode cX6_digest 9 = .ok (.if_icmp .gt 20, 3) := by decide +kernel
theorem dX6_digest_12 : decode cX6_digest 12 = .ok (.lload_n 1, 1) := by decide +kernel
theorem dX6_digest_13 : decode cX6_digest 13 = .ok (.aload_n 0, 1) := by decide +kernel
theorem dX6_digest_14 : decode cX6_digest 14 = .ok (.iload_n 3, 1) := by decide +kernel
theorem dX6_digest_15 : decode cX6_digest 15 = .ok (.invokevirtual 177, 3) := by decide +kernel
theorem dX6_digest_18 : decode cX6_digest 18 = .ok (.i2l, 1) := by decide +kernel
theorem dX6_digest_19 : decode cX6_digest 19 = .ok (.invokestatic 194, 3) := by decide +kernel
theorem dX6_digest_22 : decode cX6_digest 22 = .ok (.lstore_n 1, 1) := by decide +kernel
theorem dX6_digest_23 : decode cX6_digest 23 = .ok (.iinc 3 1, 3) := by decide +kernel
theorem dX6_digest_26 : decode cX6_digest 26 = .ok (.goto (-20), 3) := by decide +kernel
theorem dX6_digest_29 : decode cX6_digest 29 = .ok (.iconst 0, 1) := by decide +kernel
theorem dX6_digest_30 : decode cX6_digest 30 = .ok (.istore_n 3, 1) := by decide +kernel
theorem dX6_digest_31 : decode cX6_digest 31 = .ok (.iload_n 3, 1) := by decide +kernel
theorem dX6_digest_32 : decode cX6_digest 32 = .ok (.iconst 4, 1) := by decide +kernel
theorem dX6_digest_33 : decode cX6_digest 33 = .ok (.if_icmp .ge 63, 3) := by decide +kernel
theorem dX6_digest_36 : decode cX6_digest 36 = .ok (.iconst 0, 1) := by decide +kernel
theorem dX6_digest_37 : decode cX6_digest 37 = .ok (.istore 4, 2) := by decide +kernel
theorem dX6_digest_39 : decode cX6_digest 39 = .ok (.iload 4, 2) := by decide +kernel
theorem dX6_digest_41 : decode cX6_digest 41 = .ok (.bipush 6, 2) := by decide +kernel
theorem dX6_digest_43 : decode cX6_digest 43 = .ok (.if_icmp .gt 22, 3) := by decide +kernel
theorem dX6_digest_46 : decode cX6_digest 46 = .ok (.lload_n 1, 1) := by decide +kernel
theorem dX6_digest_47 : decode cX6_digest 47 = .ok (.aload_n 0, 1) := by decide +kernel
theorem dX6_digest_48 : decode cX6_digest 48 = .ok (.iload_n 3, 1) := by decide +kernel
theorem dX6_digest_49 : decode cX6_digest 49 = .ok (.iload 4, 2) := by decide +kernel
theorem dX6_digest_51 : decode cX6_digest 51 = .ok (.invokevirtual 171, 3) := by decide +kernel
theorem dX6_digest_54 : decode cX6_digest 54 = .ok (.i2l, 1) := by decide +kernel
theorem dX6_digest_55 : decode cX6_digest 55 = .ok (.invokestatic 194, 3) := by decide +kernel
theorem dX6_digest_58 : decode cX6_digest 58 = .ok (.lstore_n 1, 1) := by decide +kernel
theorem dX6_digest_59 : decode cX6_digest 59 = .ok (.iinc 4 1, 3) := by decide +kernel
theorem dX6_digest_62 : decode cX6_digest 62 = .ok (.goto (-23), 3) := by decide +kernel
theorem dX6_digest_65 : decode cX6_digest 65 = .ok (.aload_n 0, 1) := by decide +kernel
theorem dX6_digest_66 : decode cX6_digest 66 = .ok (.lload_n 1, 1) := by decide +kernel
theorem dX6_digest_67 : decode cX6_digest 67 = .ok (.iload_n 3, 1) := by decide +kernel
theorem dX6_digest_68 : decode cX6_digest 68 = .ok (.invokevirtual 198, 3) := by decide +kernel
theorem dX6_digest_71 : decode cX6_digest 71 = .ok (.lstore_n 1, 1) := by decide +kernel
theorem dX6_digest_72 : decode cX6_digest 72 = .ok (.lload_n 1, 1) := by decide +kernel
theorem dX6_digest_73 : decode cX6_digest 73 = .ok (.aload_n 0, 1) := by decide +kernel
theorem dX6_digest_74 : decode cX6_digest 74 = .ok (.iload_n 3, 1) := by decide +kernel
theorem dX6_digest_75 : decode cX6_digest 75 = .ok (.invokevirtual 183, 3) := by decide +kernel
theorem dX6_digest_78 : decode cX6_digest 78 = .ok (.i2l, 1) := by decide +kernel
theorem dX6_digest_79 : decode cX6_digest 79 = .ok (.invokestatic 194, 3) := by decide +kernel
theorem dX6_digest_82 : decode cX6_digest 82 = .ok (.lstore_n 1, 1) := by decide +kernel
theorem dX6_digest_83 : decode cX6_digest 83 = .ok (.aload_n 0, 1) := by decide +kernel
theorem dX6_digest_84 : decode cX6_digest 84 = .ok (.lload_n 1, 1) := by decide +kernel
theorem dX6_digest_85 : decode cX6_digest 85 = .ok (.iload_n 3, 1) := by decide +kernel
theorem dX6_digest_86 : decode cX6_digest 86 = .ok (.invokevirtual 202, 3) := by decide +kernel
theorem dX6_digest_89 : decode cX6_digest 89 = .ok (.lstore_n 1, 1) := by decide +kernel
theorem dX6_digest_90 : decode cX6_digest 90 = .ok (.iinc 3 1, 3) := by decide +kernel
theorem dX6_digest_93 : decode cX6_digest 93 = .ok (.goto (-62), 3) := by decide +kernel
theorem dX6_digest_96 : decode cX6_digest 96 = .ok (.lload_n 1, 1) := by decide +kernel
theorem dX6_digest_97 : decode cX6_digest 97 = .ok (.aload_n 0, 1) := by decide +kernel
theorem dX6_digest_98 : decode cX6_digest 98 = .ok (.sipush 160, 3) := by decide +kernel
theorem dX6_digest_101 : decode cX6_digest 101 = .ok (.invokevirtual 186, 3) := by decide +kernel
theorem dX6_digest_104 : decode cX6_digest 104 = .ok (.i2l, 1) := by decide +kernel
theorem dX6_digest_105 : decode cX6_digest 105 = .ok (.invokestatic 194, 3) := by decide +kernel
theorem dX6_digest_108 : decode cX6_digest 108 = .ok (.lstore_n 1, 1) := by decide +kernel
theorem dX6_digest_109 : decode cX6_digest 109 = .ok (.iconst 1, 1) := by decide +kernel
theorem dX6_digest_110 : decode cX6_digest 110 = .ok (.istore_n 3, 1) := by decide +kernel
theorem dX6_digest_111 : decode cX6_digest 111 = .ok (.iload_n 3, 1) := by decide +kernel
theorem dX6_digest_112 : decode cX6_digest 112 = .ok (.bipush 6, 2) := by decide +kernel
theorem dX6_digest_114 : decode cX6_digest 114 = .ok (.if_icmp .gt 20, 3) := by decide +kernel
theorem dX6_digest_117 : decode cX6_digest 117 = .ok (.lload_n 1, 1) := by decide +kernel
theorem dX6_digest_118 : decode cX6_digest 118 = .ok (.aload_n 0, 1) := by decide +kernel
theorem dX6_digest_119 : decode cX6_digest 119 = .ok (.iload_n 3, 1) := by decide +kernel
theorem dX6_digest_120 : decode cX6_digest 120 = .ok (.invokevirtual 189, 3) := by decide +kernel
theorem dX6_digest_123 : decode cX6_digest 123 = .ok (.i2l, 1) := by decide +kernel
theorem dX6_digest_124 : decode cX6_digest 124 = .ok (.invokestatic 194, 3) := by decide +kernel
theorem dX6_digest_127 : decode cX6_digest 127 = .ok (.lstore_n 1, 1) := by decide +kernel
theorem dX6_digest_128 : decode cX6_digest 128 = .ok (.iinc 3 1, 3) := by decide +kernel
theorem dX6_digest_131 : decode cX6_digest 131 = .ok (.goto (-20), 3) := by decide +kernel
theorem dX6_digest_134 : decode cX6_digest 134 = .ok (.lload_n 1, 1) := by decide +kernel
theorem dX6_digest_135 : decode cX6_digest 135 = .ok (.aload_n 0, 1) := by decide +kernel
theorem dX6_digest_136 : decode cX6_digest 136 = .ok (.invokevirtual 205, 3) := by decide +kernel
theorem dX6_digest_139 : decode cX6_digest 139 = .ok (.invokestatic 209, 3) := by decide +kernel
theorem dX6_digest_142 : decode cX6_digest 142 = .ok (.invokestatic 194, 3) := by decide +kernel
theorem dX6_digest_145 : decode cX6_digest 145 = .ok (.lstore_n 1, 1) := by decide +kernel
theorem dX6_digest_146 : decode cX6_digest 146 = .ok (.aload_n 0, 1) := by decide +kernel
theorem dX6_digest_147 : decode cX6_digest 147 = .ok (.lload_n 1, 1) := by decide +kernel
theorem dX6_digest_148 : decode cX6_digest 148 = .ok (.invokevirtual 213, 3) := by decide +kernel
theorem dX6_digest_151 : decode cX6_digest 151 = .ok (.lreturn, 1) := by decide +kernel
theorem dX6_needIndex_0 : decode cX6_needIndex 0 = .ok (.iload_n 0, 1) := by decide +kernel
theorem dX6_needIndex_1 : decode cX6_needIndex 1 = .ok (.ifCond .ne 11, 3) := by decide +kernel
theorem dX6_needIndex_4 : decode cX6_needIndex 4 = .ok (.new 217, 3) := by decide +kernel
theorem dX6_needIndex_7 : decode cX6_needIndex 7 = .ok (.dup, 1) := by decide +kernel
theorem dX6_needIndex_8 : decode cX6_needIndex 8 = .ok (.invokespecial 219, 3) := by decide +kernel
theorem dX6_needIndex_11 : decode cX6_needIndex 11 = .ok (.athrow, 1) := by decide +kernel
theorem dX6_needIndex_12 : decode cX6_needIndex 12 = .ok (.return_, 1) := by decide +kernel
theorem dX6_needArgument_0 : decode cX6_needArgument 0 = .ok (.iload_n 0, 1) := by decide +kernel
theorem dX6_needArgument_1 : decode cX6_needArgument 1 = .ok (.ifCond .ne 11, 3) := by decide +kernel
theorem dX6_needArgument_4 : decode cX6_needArgument 4 = .ok (.new 220, 3) := by decide +kernel
theorem dX6_needArgument_7 : decode cX6_needArgument 7 = .ok (.dup, 1) := by decide +kernel
theorem dX6_needArgument_8 : decode cX6_needArgument 8 = .ok (.invokespecial 222, 3) := by decide +kernel
theorem dX6_needArgument_11 : decode cX6_needArgument 11 = .ok (.athrow, 1) := by decide +kernel
theorem dX6_needArgument_12 : decode cX6_needArgument 12 = .ok (.return_, 1) := by decide +kernel
theorem dX6_needState_0 : decode cX6_needState 0 = .ok (.iload_n 0, 1) := by decide +kernel
theorem dX6_needState_1 : decode cX6_needState 1 = .ok (.ifCond .ne 11, 3) := by decide +kernel
theorem dX6_needState_4 : decode cX6_needState 4 = .ok (.new 223, 3) := by decide +kernel
theorem dX6_needState_7 : decode cX6_needState 7 = .ok (.dup, 1) := by decide +kernel
theorem dX6_needState_8 : decode cX6_needState 8 = .ok (.invokespecial 225, 3) := by decide +kernel
theorem dX6_needState_11 : decode cX6_needState 11 = .ok (.athrow, 1) := by decide +kernel
theorem dX6_needState_12 : decode cX6_needState 12 = .ok (.return_, 1) := by decide +kernel
theorem dX6_needRow_0 : decode cX6_needRow 0 = .ok (.iload_n 0, 1) := by decide +kernel
theorem dX6_needRow_1 : decode cX6_needRow 1 = .ok (.iconst 0, 1) := by decide +kernel
theorem dX6_needRow_2 : decode cX6_needRow 2 = .ok (.iconst 3, 1) := by decide +kernel
theorem dX6_needRow_3 : decode cX6_needRow 3 = .ok (.invokestatic 61, 3) := by decide +kernel
theorem dX6_needRow_6 : decode cX6_needRow 6 = .ok (.invokestatic 123, 3) := by decide +kernel
theorem dX6_needRow_9 : decode cX6_needRow 9 = .ok (.return_, 1) := by decide +kernel
theorem dX6_needSinger_0 : decode cX6_needSinger 0 = .ok (.aload_n 0, 1) := by decide +kernel
theorem dX6_needSinger_1 : decode cX6_needSinger 1 = .ok (.getfield 12, 3) := by decide +kernel
theorem dX6_needSinger_4 : decode cX6_needSinger 4 = .ok (.iload_n 1, 1) := by decide +kernel
theorem dX6_needSinger_5 : decode cX6_needSinger 5 = .ok (.iload_n 2, 1) := by decide +kernel
theorem dX6_needSinger_6 : decode cX6_needSinger 6 = .ok (.invokevirtual 226, 3) := by decide +kernel
theorem dX6_needSinger_9 : decode cX6_needSinger 9 = .ok (.invokestatic 123, 3) := by decide +kernel
theorem dX6_needSinger_12 : decode cX6_needSinger 12 = .ok (.return_, 1) := by decide +kernel
theorem dX6_needHeight_0 : decode cX6_needHeight 0 = .ok (.iload_n 0, 1) := by decide +kernel
theorem dX6_needHeight_1 : decode cX6_needHeight 1 = .ok (.bipush 100, 2) := by decide +kernel
theorem dX6_needHeight_3 : decode cX6_needHeight 3 = .ok (.sipush 220, 3) := by decide +kernel
theorem dX6_needHeight_6 : decode cX6_needHeight 6 = .ok (.invokestatic 61, 3) := by decide +kernel
theorem dX6_needHeight_9 : decode cX6_needHeight 9 = .ok (.invokestatic 65, 3) := by decide +kernel
theorem dX6_needHeight_12 : decode cX6_needHeight 12 = .ok (.return_, 1) := by decide +kernel
theorem dX6_isBetween_0 : decode cX6_isBetween 0 = .ok (.iload_n 0, 1) := by decide +kernel
theorem dX6_isBetween_1 : decode cX6_isBetween 1 = .ok (.iload_n 1, 1) := by decide +kernel
theorem dX6_isBetween_2 : decode cX6_isBetween 2 = .ok (.if_icmp .lt 12, 3) := by decide +kernel
theorem dX6_isBetween_5 : decode cX6_isBetween 5 = .ok (.iload_n 0, 1) := by decide +kernel
theorem dX6_isBetween_6 : decode cX6_isBetween 6 = .ok (.iload_n 2, 1) := by decide +kernel
theorem dX6_isBetween_7 : decode cX6_isBetween 7 = .ok (.if_icmp .gt 7, 3) := by decide +kernel
theorem dX6_isBetween_10 : decode cX6_isBetween 10 = .ok (.iconst 1, 1) := by decide +kernel
theorem dX6_isBetween_11 : decode cX6_isBetween 11 = .ok (.goto 4, 3) := by decide +kernel
theorem dX6_isBetween_14 : decode cX6_isBetween 14 = .ok (.iconst 0, 1) := by decide +kernel
theorem dX6_isBetween_15 : decode cX6_isBetween 15 = .ok (.ireturn, 1) := by decide +kernel
theorem dX6_readCell_0 : decode cX6_readCell 0 = .ok (.iload_n 1, 1) := by decide +kernel
theorem dX6_readCell_1 : decode cX6_readCell 1 = .ok (.ifCond .lt 15, 3) := by decide +kernel
theorem dX6_readCell_4 : decode cX6_readCell 4 = .ok (.iload_n 1, 1) := by decide +kernel
theorem dX6_readCell_5 : decode cX6_readCell 5 = .ok (.aload_n 0, 1) := by decide +kernel
theorem dX6_readCell_6 : decode cX6_readCell 6 = .ok (.arraylength, 1) := by decide +kernel
theorem dX6_readCell_7 : decode cX6_readCell 7 = .ok (.if_icmp .ge 9, 3) := by decide +kernel
theorem dX6_readCell_10 : decode cX6_readCell 10 = .ok (.aload_n 0, 1) := by decide +kernel
theorem dX6_readCell_11 : decode cX6_readCell 11 = .ok (.iload_n 1, 1) := by decide +kernel
theorem dX6_readCell_12 : decode cX6_readCell 12 = .ok (.iaload, 1) := by decide +kernel
theorem dX6_readCell_13 : decode cX6_readCell 13 = .ok (.goto 4, 3) := by decide +kernel
theorem dX6_readCell_16 : decode cX6_readCell 16 = .ok (.iconst (-1), 1) := by decide +kernel
theorem dX6_readCell_17 : decode cX6_readCell 17 = .ok (.ireturn, 1) := by decide +kernel
theorem dX6_writeCell_0 : decode cX6_writeCell 0 = .ok (.iload_n 1, 1) := by decide +kernel
theorem dX6_writeCell_1 : decode cX6_writeCell 1 = .ok (.ifCond .lt 13, 3) := by decide +kernel
theorem dX6_writeCell_4 : decode cX6_writeCell 4 = .ok (.iload_n 1, 1) := by decide +kernel
theorem dX6_writeCell_5 : decode cX6_writeCell 5 = .ok (.aload_n 0, 1) := by decide +kernel
theorem dX6_writeCell_6 : decode cX6_writeCell 6 = .ok (.arraylength, 1) := by decide +kernel
theorem dX6_writeCell_7 : decode cX6_writeCell 7 = .ok (.if_icmp .ge 7, 3) := by decide +kernel
theorem dX6_writeCell_10 : decode cX6_writeCell 10 = .ok (.aload_n 0, 1) := by decide +kernel
theorem dX6_writeCell_11 : decode cX6_writeCell 11 = .ok (.iload_n 1, 1) := by decide +kernel
theorem dX6_writeCell_12 : decode cX6_writeCell 12 = .ok (.iload_n 2, 1) := by decide +kernel
theorem dX6_writeCell_13 : decode cX6_writeCell 13 = .ok (.iastore, 1) := by decide +kernel
theorem dX6_writeCell_14 : decode cX6_writeCell 14 = .ok (.return_, 1) := by decide +kernel
theorem dX6_doPart_0 : decode cX6_doPart 0 = .ok (.aload_n 0, 1) := by decide +kernel
theorem dX6_doPart_1 : decode cX6_doPart 1 = .ok (.getfield 36, 3) := by decide +kernel
theorem dX6_doPart_4 : decode cX6_doPart 4 = .ok (.iload_n 1, 1) := by decide +kernel
theorem dX6_doPart_5 : decode cX6_doPart 5 = .ok (.invokevirtual 152, 3) := by decide +kernel
theorem dX6_doPart_8 : decode cX6_doPart 8 = .ok (.istore_n 2, 1) := by decide +kernel
theorem dX6_doPart_9 : decode cX6_doPart 9 = .ok (.aload_n 0, 1) := by decide +kernel
theorem dX6_doPart_10 : decode cX6_doPart 10 = .ok (.getfield 36, 3) := by decide +kernel
theorem dX6_doPart_13 : decode cX6_doPart 13 = .ok (.iload_n 1, 1) := by decide +kernel
theorem dX6_doPart_14 : decode cX6_doPart 14 = .ok (.invokevirtual 230, 3) := by decide +kernel
theorem dX6_doPart_17 : decode cX6_doPart 17 = .ok (.tableswitch 166 104 118 #[126, 166, 75, 166, 106, 166, 166, 166, 166, 166, 166, 81, 87, 166, 146], 75) := by decide +kernel
theorem dX6_doPart_92 : decode cX6_doPart 92 = .ok (.aload_n 0, 1) := by decide +kernel
theorem dX6_doPart_93 : decode cX6_doPart 93 = .ok (.iload_n 1, 1) := by decide +kernel
theorem dX6_doPart_94 : decode cX6_doPart 94 = .ok (.invokevirtual 234, 3) := by decide +kernel
theorem dX6_doPart_97 : decode cX6_doPart 97 = .ok (.ireturn, 1) := by decide +kernel
theorem dX6_doPart_98 : decode cX6_doPart 98 = .ok (.aload_n 0, 1) := by decide +kernel
theorem dX6_doPart_99 : decode cX6_doPart 99 = .ok (.iload_n 1, 1) := by decide +kernel
theorem dX6_doPart_100 : decode cX6_doPart 100 = .ok (.invokevirtual 237, 3) := by decide +kernel
theorem dX6_doPart_103 : decode cX6_doPart 103 = .ok (.ireturn, 1) := by decide +kernel
theorem dX6_doPart_104 : decode cX6_doPart 104 = .ok (.aload_n 0, 1) := by decide +kernel
theorem dX6_doPart_105 : decode cX6_doPart 105 = .ok (.getfield 12, 3) := by decide +kernel
theorem dX6_doPart_108 : decode cX6_doPart 108 = .ok (.aload_n 0, 1) := by decide +kernel
theorem dX6_doPart_109 : decode cX6_doPart 109 = .ok (.getfield 36, 3) := by decide +kernel
theorem dX6_doPart_112 : decode cX6_doPart 112 = .ok (.iload_n 2, 1) := by decide +kernel
theorem dX6_doPart_113 : decode cX6_doPart 113 = .ok (.iconst 1, 1) := by decide +kernel
theorem dX6_doPart_114 : decode cX6_doPart 114 = .ok (.isub, 1) := by decide +kernel
theorem dX6_doPart_115 : decode cX6_doPart 115 = .ok (.invokevirtual 240, 3) := by decide +kernel
theorem dX6_doPart_118 : decode cX6_doPart 118 = .ok (.invokevirtual 114, 3) := by decide +kernel
theorem dX6_doPart_121 : decode cX6_doPart 121 = .ok (.iconst 1, 1) := by decide +kernel
theorem dX6_doPart_122 : decode cX6_doPart 122 = .ok (.ireturn, 1) := by decide +kernel
theorem dX6_doPart_123 : decode cX6_doPart 123 = .ok (.aload_n 0, 1) := by decide +kernel
theorem dX6_doPart_124 : decode cX6_doPart 124 = .ok (.getfield 12, 3) := by decide +kernel
theorem dX6_doPart_127 : decode cX6_doPart 127 = .ok (.aload_n 0, 1) := by decide +kernel
theorem dX6_doPart_128 : decode cX6_doPart 128 = .ok (.getfield 36, 3) := by decide +kernel
theorem dX6_doPart_131 : decode cX6_doPart 131 = .ok (.iload_n 2, 1) := by decide +kernel
theorem dX6_doPart_132 : decode cX6_doPart 132 = .ok (.iconst 1, 1) := by decide +kernel
theorem dX6_doPart_133 : decode cX6_doPart 133 = .ok (.isub, 1) := by decide +kernel
theorem dX6_doPart_134 : decode cX6_doPart 134 = .ok (.invokevirtual 240, 3) := by decide +kernel
theorem dX6_doPart_137 : decode cX6_doPart 137 = .ok (.iconst 0, 1) := by decide +kernel
theorem dX6_doPart_138 : decode cX6_doPart 138 = .ok (.invokevirtual 117, 3) := by decide +kernel
theorem dX6_doPart_141 : decode cX6_doPart 141 = .ok (.iconst 1, 1) := by decide +kernel
theorem dX6_doPart_142 : decode cX6_doPart 142 = .ok (.ireturn, 1) := by decide +kernel
theorem dX6_doPart_143 : decode cX6_doPart 143 = .ok (.aload_n 0, 1) := by decide +kernel
theorem dX6_doPart_144 : decode cX6_doPart 144 = .ok (.getfield 12, 3) := by decide +kernel
theorem dX6_doPart_147 : decode cX6_doPart 147 = .ok (.aload_n 0, 1) := by decide +kernel
theorem dX6_doPart_148 : decode cX6_doPart 148 = .ok (.getfield 36, 3) := by decide +kernel
theorem dX6_doPart_151 : decode cX6_doPart 151 = .ok (.iload_n 2, 1) := by decide +kernel
theorem dX6_doPart_152 : decode cX6_doPart 152 = .ok (.iconst 1, 1) := by decide +kernel
theorem dX6_doPart_153 : decode cX6_doPart 153 = .ok (.isub, 1) := by decide +kernel
theorem dX6_doPart_154 : decode cX6_doPart 154 = .ok (.invokevirtual 240, 3) := by decide +kernel
theorem dX6_doPart_157 : decode cX6_doPart 157 = .ok (.iconst 1, 1) := by decide +kernel
theorem dX6_doPart_158 : decode cX6_doPart 158 = .ok (.invokevirtual 117, 3) := by decide +kernel
theorem dX6_doPart_161 : decode cX6_doPart 161 = .ok (.iconst 1, 1) := by decide +kernel
theorem dX6_doPart_162 : decode cX6_doPart 162 = .ok (.ireturn, 1) := by decide +kernel
theorem dX6_doPart_163 : decode cX6_doPart 163 = .ok (.aload_n 0, 1) := by decide +kernel
theorem dX6_doPart_164 : decode cX6_doPart 164 = .ok (.getfield 12, 3) := by decide +kernel
theorem dX6_doPart_167 : decode cX6_doPart 167 = .ok (.aload_n 0, 1) := by decide +kernel
theorem dX6_doPart_168 : decode cX6_doPart 168 = .ok (.getfield 36, 3) := by decide +kernel
theorem dX6_doPart_171 : decode cX6_doPart 171 = .ok (.iload_n 2, 1) := by decide +kernel
theorem dX6_doPart_172 : decode cX6_doPart 172 = .ok (.iconst 1, 1) := by decide +kernel
theorem dX6_doPart_173 : decode cX6_doPart 173 = .ok (.isub, 1) := by decide +kernel
theorem dX6_doPart_174 : decode cX6_doPart 174 = .ok (.invokevirtual 240, 3) := by decide +kernel
theorem dX6_doPart_177 : decode cX6_doPart 177 = .ok (.iconst 2, 1) := by decide +kernel
theorem dX6_doPart_178 : decode cX6_doPart 178 = .ok (.invokevirtual 117, 3) := by decide +kernel
theorem dX6_doPart_181 : decode cX6_doPart 181 = .ok (.iconst 1, 1) := by decide +kernel
theorem dX6_doPart_182 : decode cX6_doPart 182 = .ok (.ireturn, 1) := by decide +kernel
theorem dX6_doPart_183 : decode cX6_doPart 183 = .ok (.iconst 0, 1) := by decide +kernel
theorem dX6_doPart_184 : decode cX6_doPart 184 = .ok (.ireturn, 1) := by decide +kernel
theorem dX6_joinByText_0 : decode cX6_joinByText 0 = .ok (.aload_n 0, 1) := by decide +kernel
theorem dX6_joinByText_1 : decode cX6_joinByText 1 = .ok (.getfield 36, 3) := by decide +kernel
theorem dX6_joinByText_4 : decode cX6_joinByText 4 = .ok (.iload_n 1, 1) := by decide +kernel
theorem dX6_joinByText_5 : decode cX6_joinByText 5 = .ok (.iconst 5, 1) := by decide +kernel
theorem dX6_joinByText_6 : decode cX6_joinByText 6 = .ok (.iadd, 1) := by decide +kernel
theorem dX6_joinByText_7 : decode cX6_joinByText 7 = .ok (.invokevirtual 240, 3) := by decide +kernel
theorem dX6_joinByText_10 : decode cX6_joinByText 10 = .ok (.istore_n 2, 1) := by decide +kernel
theorem dX6_joinByText_11 : decode cX6_joinByText 11 = .ok (.bipush 100, 2) := by decide +kernel
theorem dX6_joinByText_13 : decode cX6_joinByText 13 = .ok (.aload_n 0, 1) := by decide +kernel
theorem dX6_joinByText_14 : decode cX6_joinByText 14 = .ok (.getfield 36, 3) := by decide +kernel
theorem dX6_joinByText_17 : decode cX6_joinByText 17 = .ok (.iload_n 1, 1) := by decide +kernel
theorem dX6_joinByText_18 : decode cX6_joinByText 18 = .ok (.bipush 7, 2) := by decide +kernel
theorem dX6_joinByText_20 : decode cX6_joinByText 20 = .ok (.iadd, 1) := by decide +kernel
theorem dX6_joinByText_21 : decode cX6_joinByText 21 = .ok (.invokevirtual 240, 3) := by decide +kernel
theorem dX6_joinByText_24 : decode cX6_joinByText 24 = .ok (.imul, 1) := by decide +kernel
theorem dX6_joinByText_25 : decode cX6_joinByText 25 = .ok (.bipush 10, 2) := by decide +kernel
theorem dX6_joinByText_27 : decode cX6_joinByText 27 = .ok (.aload_n 0, 1) := by decide +kernel
theorem dX6_joinByText_28 : decode cX6_joinByText 28 = .ok (.getfield 36, 3) := by decide +kernel
theorem dX6_joinByText_31 : decode cX6_joinByText 31 = .ok (.iload_n 1, 1) := by decide +kernel
theorem dX6_joinByText_32 : decode cX6_joinByText 32 = .ok (.bipush 8, 2) := by decide +kernel
theorem dX6_joinByText_34 : decode cX6_joinByText 34 = .ok (.iadd, 1) := by decide +kernel
theorem dX6_joinByText_35 : decode cX6_joinByText 35 = .ok (.invokevirtual 240, 3) := by decide +kernel
theorem dX6_joinByText_38 : decode cX6_joinByText 38 = .ok (.imul, 1) := by decide +kernel
theorem dX6_joinByText_39 : decode cX6_joinByText 39 = .ok (.iadd, 1) := by decide +kernel
theorem dX6_joinByText_40 : decode cX6_joinByText 40 = .ok (.aload_n 0, 1) := by decide +kernel
theorem dX6_joinByText_41 : decode cX6_joinByText 41 = .ok (.getfield 36, 3) := by decide +kernel
theorem dX6_joinByText_44 : decode cX6_joinByText 44 = .ok (.iload_n 1, 1) := by decide +kernel
theorem dX6_joinByText_45 : decode cX6_joinByText 45 = .ok (.bipush 9, 2) := by decide +kernel
theorem dX6_joinByText_47 : decode cX6_joinByText 47 = .ok (.iadd, 1) := by decide +kernel
theorem dX6_joinByText_48 : decode cX6_joinByText 48 = .ok (.invokevirtual 240, 3) := by decide +kernel
theorem dX6_joinByText_51 : decode cX6_joinByText 51 = .ok (.iadd, 1) := by decide +kernel
theorem dX6_joinByText_52 : decode cX6_joinByText 52 = .ok (.istore_n 3, 1) := by decide +kernel
theorem dX6_joinByText_53 : decode cX6_joinByText 53 = .ok (.ldc 243, 2) := by decide +kernel
theorem dX6_joinByText_55 : decode cX6_joinByText 55 = .ok (.aload_n 0, 1) := by decide +kernel
theorem dX6_joinByText_56 : decode cX6_joinByText 56 = .ok (.getfield 36, 3) := by decide +kernel
theorem dX6_joinByText_59 : decode cX6_joinByText 59 = .ok (.iload_n 1, 1) := by decide +kernel
theorem dX6_joinByText_60 : decode cX6_joinByText 60 = .ok (.bipush 10, 2) := by decide +kernel
theorem dX6_joinByText_62 : decode cX6_joinByText 62 = .ok (.iadd, 1) := by decide +kernel
theorem dX6_joinByText_63 : decode cX6_joinByText 63 = .ok (.invokevirtual 230, 3) := by decide +kernel
theorem dX6_joinByText_66 : decode cX6_joinByText 66 = .ok (.invokevirtual 245, 3) := by decide +kernel
theorem dX6_joinByText_69 : decode cX6_joinByText 69 = .ok (.istore 4, 2) := by decide +kernel
theorem dX6_joinByText_71 : decode cX6_joinByText 71 = .ok (.aload_n 0, 1) := by decide +kernel
theorem dX6_joinByText_72 : decode cX6_joinByText 72 = .ok (.getfield 12, 3) := by decide +kernel
theorem dX6_joinByText_75 : decode cX6_joinByText 75 = .ok (.iload_n 2, 1) := by decide +kernel
theorem dX6_joinByText_76 : decode cX6_joinByText 76 = .ok (.invokevirtual 69, 3) := by decide +kernel
theorem dX6_joinByText_79 : decode cX6_joinByText 79 = .ok (.ifCond .ne 5, 3) := by decide +kernel
theorem dX6_joinByText_82 : decode cX6_joinByText 82 = .ok (.iconst 0, 1) := by decide +kernel
theorem dX6_joinByText_83 : decode cX6_joinByText 83 = .ok (.ireturn, 1) := by decide +kernel
theorem dX6_joinByText_84 : decode cX6_joinByText 84 = .ok (.aload_n 0, 1) := by decide +kernel
theorem dX6_joinByText_85 : decode cX6_joinByText 85 = .ok (.getfield 12, 3) := by decide +kernel
theorem dX6_joinByText_88 : decode cX6_joinByText 88 = .ok (.iload_n 2, 1) := by decide +kernel
theorem dX6_joinByText_89 : decode cX6_joinByText 89 = .ok (.iload_n 3, 1) := by decide +kernel
theorem dX6_joinByText_90 : decode cX6_joinByText 90 = .ok (.iload 4, 2) := by decide +kernel
theorem dX6_joinByText_92 : decode cX6_joinByText 92 = .ok (.invokevirtual 80, 3) := by decide +kernel
theorem dX6_joinByText_95 : decode cX6_joinByText 95 = .ok (.pop, 1) := by decide +kernel
theorem dX6_joinByText_96 : decode cX6_joinByText 96 = .ok (.iconst 1, 1) := by decide +kernel
theorem dX6_joinByText_97 : decode cX6_joinByText 97 = .ok (.ireturn, 1) := by decide +kernel
theorem dX6_swapByText_0 : decode cX6_swapByText 0 = .ok (.aload_n 0, 1) := by decide +kernel
theorem dX6_swapByText_1 : decode cX6_swapByText 1 = .ok (.getfield 36, 3) := by decide +kernel
theorem dX6_swapByText_4 : decode cX6_swapByText 4 = .ok (.iload_n 1, 1) := by decide +kernel
theorem dX6_swapByText_5 : decode cX6_swapByText 5 = .ok (.iconst 5, 1) := by decide +kernel
theorem dX6_swapByText_6 : decode cX6_swapByText 6 = .ok (.iadd, 1) := by decide +kernel
theorem dX6_swapByText_7 : decode cX6_swapByText 7 = .ok (.invokevirtual 240, 3) := by decide +kernel
theorem dX6_swapByText_10 : decode cX6_swapByText 10 = .ok (.istore_n 2, 1) := by decide +kernel
theorem dX6_swapByText_11 : decode cX6_swapByText 11 = .ok (.aload_n 0, 1) := by decide +kernel
theorem dX6_swapByText_12 : decode cX6_swapByText 12 = .ok (.getfield 36, 3) := by decide +kernel
theorem dX6_swapByText_15 : decode cX6_swapByText 15 = .ok (.iload_n 1, 1) := by decide +kernel
theorem dX6_swapByText_16 : decode cX6_swapByText 16 = .ok (.bipush 7, 2) := by decide +kernel
theorem dX6_swapByText_18 : decode cX6_swapByText 18 = .ok (.iadd, 1) := by decide +kernel
theorem dX6_swapByText_19 : decode cX6_swapByText 19 = .ok (.invokevirtual 240, 3) := by decide +kernel
theorem dX6_swapByText_22 : decode cX6_swapByText 22 = .ok (.istore_n 3, 1) := by decide +kernel
theorem dX6_swapByText_23 : decode cX6_swapByText 23 = .ok (.aload_n 0, 1) := by decide +kernel
theorem dX6_swapByText_24 : decode cX6_swapByText 24 = .ok (.getfield 36, 3) := by decide +kernel
theorem dX6_swapByText_27 : decode cX6_swapByText 27 = .ok (.iload_n 1, 1) := by decide +kernel
theorem dX6_swapByText_28 : decode cX6_swapByText 28 = .ok (.bipush 8, 2) := by decide +kernel
theorem dX6_swapByText_30 : decode cX6_swapByText 30 = .ok (.iadd, 1) := by decide +kernel
theorem dX6_swapByText_31 : decode cX6_swapByText 31 = .ok (.invokevirtual 240, 3) := by decide +kernel
theorem dX6_swapByText_34 : decode cX6_swapByText 34 = .ok (.istore 4, 2) := by decide +kernel
theorem dX6_swapByText_36 : decode cX6_swapByText 36 = .ok (.aload_n 0, 1) := by decide +kernel
theorem dX6_swapByText_37 : decode cX6_swapByText 37 = .ok (.getfield 12, 3) := by decide +kernel
theorem dX6_swapByText_40 : decode cX6_swapByText 40 = .ok (.iload_n 2, 1) := by decide +kernel
theorem dX6_swapByText_41 : decode cX6_swapByText 41 = .ok (.iload_n 3, 1) := by decide +kernel
theorem dX6_swapByText_42 : decode cX6_swapByText 42 = .ok (.invokevirtual 226, 3) := by decide +kernel
theorem dX6_swapByText_45 : decode cX6_swapByText 45 = .ok (.ifCond .eq 16, 3) := by decide +kernel
theorem dX6_swapByText_48 : decode cX6_swapByText 48 = .ok (.aload_n 0, 1) := by decide +kernel
theorem dX6_swapByText_49 : decode cX6_swapByText 49 = .ok (.getfield 12, 3) := by decide +kernel
theorem dX6_swapByText_52 : decode cX6_swapByText 52 = .ok (.iload_n 2, 1) := by decide +kernel
theorem dX6_swapByText_53 : decode cX6_swapByText 53 = .ok (.iload 4, 2) := by decide +kernel
theorem dX6_swapByText_55 : decode cX6_swapByText 55 = .ok (.invokevirtual 226, 3) := by decide +kernel
theorem dX6_swapByText_58 : decode cX6_swapByText 58 = .ok (.ifCond .ne 5, 3) := by decide +kernel
theorem dX6_swapByText_61 : decode cX6_swapByText 61 = .ok (.iconst 0, 1) := by decide +kernel
theorem dX6_swapByText_62 : decode cX6_swapByText 62 = .ok (.ireturn, 1) := by decide +kernel
theorem dX6_swapByText_63 : decode cX6_swapByText 63 = .ok (.aload_n 0, 1) := by decide +kernel
theorem dX6_swapByText_64 : decode cX6_swapByText 64 = .ok (.getfield 12, 3) := by decide +kernel
theorem dX6_swapByText_67 : decode cX6_swapByText 67 = .ok (.iload_n 2, 1) := by decide +kernel
theorem dX6_swapByText_68 : decode cX6_swapByText 68 = .ok (.iload_n 3, 1) := by decide +kernel
theorem dX6_swapByText_69 : decode cX6_swapByText 69 = .ok (.iload_n 2, 1) := by decide +kernel
theorem dX6_swapByText_70 : decode cX6_swapByText 70 = .ok (.iload 4, 2) := by decide +kernel
theorem dX6_swapByText_72 : decode cX6_swapByText 72 = .ok (.invokevirtual 99, 3) := by decide +kernel
theorem dX6_swapByText_75 : decode cX6_swapByText 75 = .ok (.iconst 1, 1) := by decide +kernel
theorem dX6_swapByText_76 : decode cX6_swapByText 76 = .ok (.ireturn, 1) := by decide +kernel
theorem dX6_ofSinger_0 : decode cX6_ofSinger 0 = .ok (.iload_n 3, 1) := by decide +kernel
theorem dX6_ofSinger_1 : decode cX6_ofSinger 1 = .ok (.tableswitch 119 0 6 #[43, 53, 63, 73, 83, 93, 107], 43) := by decide +kernel
theorem dX6_ofSinger_44 : decode cX6_ofSinger 44 = .ok (.aload_n 0, 1) := by decide +kernel
theorem dX6_ofSinger_45 : decode cX6_ofSinger 45 = .ok (.getfield 12, 3) := by decide +kernel
theorem dX6_ofSinger_48 : decode cX6_ofSinger 48 = .ok (.iload_n 1, 1) := by decide +kernel
theorem dX6_ofSinger_49 : decode cX6_ofSinger 49 = .ok (.iload_n 2, 1) := by decide +kernel
theorem dX6_ofSinger_50 : decode cX6_ofSinger 50 = .ok (.invokevirtual 250, 3) := by decide +kernel
theorem dX6_ofSinger_53 : decode cX6_ofSinger 53 = .ok (.ireturn, 1) := by decide +kernel
theorem dX6_ofSinger_54 : decode cX6_ofSinger 54 = .ok (.aload_n 0, 1) := by decide +kernel
theorem dX6_ofSinger_55 : decode cX6_ofSinger 55 = .ok (.getfield 12, 3) := by decide +kernel
theorem dX6_ofSinger_58 : decode cX6_ofSinger 58 = .ok (.iload_n 1, 1) := by decide +kernel
theorem dX6_ofSinger_59 : decode cX6_ofSinger 59 = .ok (.iload_n 2, 1) := by decide +kernel
theorem dX6_ofSinger_60 : decode cX6_ofSinger 60 = .ok (.invokevirtual 92, 3) := by decide +kernel
theorem dX6_ofSinger_63 : decode cX6_ofSinger 63 = .ok (.ireturn, 1) := by decide +kernel
theorem dX6_ofSinger_64 : decode cX6_ofSinger 64 = .ok (.aload_n 0, 1) := by decide +kernel
theorem dX6_ofSinger_65 : decode cX6_ofSinger 65 = .ok (.getfield 12, 3) := by decide +kernel
theorem dX6_ofSinger_68 : decode cX6_ofSinger 68 = .ok (.iload_n 1, 1) := by decide +kernel
theorem dX6_ofSinger_69 : decode cX6_ofSinger 69 = .ok (.iload_n 2, 1) := by decide +kernel
theorem dX6_ofSinger_70 : decode cX6_ofSinger 70 = .ok (.invokevirtual 253, 3) := by decide +kernel
theorem dX6_ofSinger_73 : decode cX6_ofSinger 73 = .ok (.ireturn, 1) := by decide +kernel
theorem dX6_ofSinger_74 : decode cX6_ofSinger 74 = .ok (.aload_n 0, 1) := by decide +kernel
theorem dX6_ofSinger_75 : decode cX6_ofSinger 75 = .ok (.getfield 12, 3) := by decide +kernel
theorem dX6_ofSinger_78 : decode cX6_ofSinger 78 = .ok (.iload_n 1, 1) := by decide +kernel
theorem dX6_ofSinger_79 : decode cX6_ofSinger 79 = .ok (.iload_n 2, 1) := by decide +kernel
theorem dX6_ofSinger_80 : decode cX6_ofSinger 80 = .ok (.invokevirtual 256, 3) := by decide +kernel
theorem dX6_ofSinger_83 : decode cX6_ofSinger 83 = .ok (.ireturn, 1) := by decide +kernel
theorem dX6_ofSinger_84 : decode cX6_ofSinger 84 = .ok (.aload_n 0, 1) := by decide +kernel
theorem dX6_ofSinger_85 : decode cX6_ofSinger 85 = .ok (.getfield 12, 3) := by decide +kernel
theorem dX6_ofSinger_88 : decode cX6_ofSinger 88 = .ok (.iload_n 1, 1) := by decide +kernel
theorem dX6_ofSinger_89 : decode cX6_ofSinger 89 = .ok (.iload_n 2, 1) := by decide +kernel
theorem dX6_ofSinger_90 : decode cX6_ofSinger 90 = .ok (.invokevirtual 259, 3) := by decide +kernel
theorem dX6_ofSinger_93 : decode cX6_ofSinger 93 = .ok (.ireturn, 1) := by decide +kernel
theorem dX6_ofSinger_94 : decode cX6_ofSinger 94 = .ok (.aload_n 0, 1) := by decide +kernel
theorem dX6_ofSinger_95 : decode cX6_ofSinger 95 = .ok (.getfield 12, 3) := by decide +kernel
theorem dX6_ofSinger_98 : decode cX6_ofSinger 98 = .ok (.aload_n 0, 1) := by decide +kernel
theorem dX6_ofSinger_99 : decode cX6_ofSinger 99 = .ok (.getfield 43, 3) := by decide +kernel
theorem dX6_ofSinger_102 : decode cX6_ofSinger 102 = .ok (.iload_n 1, 1) := by decide +kernel
theorem dX6_ofSinger_103 : decode cX6_ofSinger 103 = .ok (.iload_n 2, 1) := by decide +kernel
theorem dX6_ofSinger_104 : decode cX6_ofSinger 104 = .ok (.invokevirtual 262, 3) := by decide +kernel
theorem dX6_ofSinger_107 : decode cX6_ofSinger 107 = .ok (.ireturn, 1) := by decide +kernel
theorem dX6_ofSinger_108 : decode cX6_ofSinger 108 = .ok (.aload_n 0, 1) := by decide +kernel
theorem dX6_ofSinger_109 : decode cX6_ofSinger 109 = .ok (.getfield 12, 3) := by decide +kernel
theorem dX6_ofSinger_112 : decode cX6_ofSinger 112 = .ok (.iload_n 1, 1) := by decide +kernel
theorem dX6_ofSinger_113 : decode cX6_ofSinger 113 = .ok (.iload_n 2, 1) := by decide +kernel
theorem dX6_ofSinger_114 : decode cX6_ofSinger 114 = .ok (.invokevirtual 259, 3) := by decide +kernel
theorem dX6_ofSinger_117 : decode cX6_ofSinger 117 = .ok (.iconst 1, 1) := by decide +kernel
theorem dX6_ofSinger_118 : decode cX6_ofSinger 118 = .ok (.iand, 1) := by decide +kernel
theorem dX6_ofSinger_119 : decode cX6_ofSinger 119 = .ok (.ireturn, 1) := by decide +kernel
theorem dX6_ofSinger_120 : decode cX6_ofSinger 120 = .ok (.aload_n 0, 1) := by decide +kernel
theorem dX6_ofSinger_121 : decode cX6_ofSinger 121 = .ok (.getfield 12, 3) := by decide +kernel
theorem dX6_ofSinger_124 : decode cX6_ofSinger 124 = .ok (.iload_n 1, 1) := by decide +kernel
theorem dX6_ofSinger_125 : decode cX6_ofSinger 125 = .ok (.iload_n 2, 1) := by decide +kernel
theorem dX6_ofSinger_126 : decode cX6_ofSinger 126 = .ok (.invokevirtual 266, 3) := by decide +kernel
theorem dX6_ofSinger_129 : decode cX6_ofSinger 129 = .ok (.ireturn, 1) := by decide +kernel
theorem dX6_ofRow_0 : decode cX6_ofRow 0 = .ok (.iload_n 2, 1) := by decide +kernel
theorem dX6_ofRow_1 : decode cX6_ofRow 1 = .ok (.tableswitch 117 0 5 #[39, 48, 57, 66, 77, 97], 39) := by decide +kernel
theorem dX6_ofRow_40 : decode cX6_ofRow 40 = .ok (.aload_n 0, 1) := by decide +kernel
theorem dX6_ofRow_41 : decode cX6_ofRow 41 = .ok (.getfield 12, 3) := by decide +kernel
theorem dX6_ofRow_44 : decode cX6_ofRow 44 = .ok (.iload_n 1, 1) := by decide +kernel
theorem dX6_ofRow_45 : decode cX6_ofRow 45 = .ok (.invokevirtual 107, 3) := by decide +kernel
theorem dX6_ofRow_48 : decode cX6_ofRow 48 = .ok (.ireturn, 1) := by decide +kernel
theorem dX6_ofRow_49 : decode cX6_ofRow 49 = .ok (.aload_n 0, 1) := by decide +kernel
theorem dX6_ofRow_50 : decode cX6_ofRow 50 = .ok (.getfield 12, 3) := by decide +kernel
theorem dX6_ofRow_53 : decode cX6_ofRow 53 = .ok (.iload_n 1, 1) := by decide +kernel
theorem dX6_ofRow_54 : decode cX6_ofRow 54 = .ok (.invokevirtual 269, 3) := by decide +kernel
theorem dX6_ofRow_57 : decode cX6_ofRow 57 = .ok (.ireturn, 1) := by decide +kernel
theorem dX6_ofRow_58 : decode cX6_ofRow 58 = .ok (.aload_n 0, 1) := by decide +kernel
theorem dX6_ofRow_59 : decode cX6_ofRow 59 = .ok (.getfield 12, 3) := by decide +kernel
theorem dX6_ofRow_62 : decode cX6_ofRow 62 = .ok (.iload_n 1, 1) := by decide +kernel
theorem dX6_ofRow_63 : decode cX6_ofRow 63 = .ok (.invokevirtual 120, 3) := by decide +kernel
theorem dX6_ofRow_66 : decode cX6_ofRow 66 = .ok (.ireturn, 1) := by decide +kernel
theorem dX6_ofRow_67 : decode cX6_ofRow 67 = .ok (.aload_n 0, 1) := by decide +kernel
theorem dX6_ofRow_68 : decode cX6_ofRow 68 = .ok (.getfield 12, 3) := by decide +kernel
theorem dX6_ofRow_71 : decode cX6_ofRow 71 = .ok (.iload_n 1, 1) := by decide +kernel
theorem dX6_ofRow_72 : decode cX6_ofRow 72 = .ok (.invokevirtual 120, 3) := by decide +kernel
theorem dX6_ofRow_75 : decode cX6_ofRow 75 = .ok (.iconst 1, 1) := by decide +kernel
theorem dX6_ofRow_76 : decode cX6_ofRow 76 = .ok (.iand, 1) := by decide +kernel
theorem dX6_ofRow_77 : decode cX6_ofRow 77 = .ok (.ireturn, 1) := by decide +kernel
theorem dX6_ofRow_78 : decode cX6_ofRow 78 = .ok (.aload_n 0, 1) := by decide +kernel
theorem dX6_ofRow_79 : decode cX6_ofRow 79 = .ok (.getfield 50, 3) := by decide +kernel
theorem dX6_ofRow_82 : decode cX6_ofRow 82 = .ok (.aload_n 0, 1) := by decide +kernel
theorem dX6_ofRow_83 : decode cX6_ofRow 83 = .ok (.getfield 12, 3) := by decide +kernel
theorem dX6_ofRow_86 : decode cX6_ofRow 86 = .ok (.iload_n 1, 1) := by decide +kernel
theorem dX6_ofRow_87 : decode cX6_ofRow 87 = .ok (.invokevirtual 272, 3) := by decide +kernel
theorem dX6_ofRow_90 : decode cX6_ofRow 90 = .ok (.aload_n 0, 1) := by decide +kernel
theorem dX6_ofRow_91 : decode cX6_ofRow 91 = .ok (.getfield 50, 3) := by decide +kernel
theorem dX6_ofRow_94 : decode cX6_ofRow 94 = .ok (.getfield 276, 3) := by decide +kernel
theorem dX6_ofRow_97 : decode cX6_ofRow 97 = .ok (.ireturn, 1) := by decide +kernel
theorem dX6_ofRow_98 : decode cX6_ofRow 98 = .ok (.aload_n 0, 1) := by decide +kernel
theorem dX6_ofRow_99 : decode cX6_ofRow 99 = .ok (.getfield 50, 3) := by decide +kernel
theorem dX6_ofRow_102 : decode cX6_ofRow 102 = .ok (.aload_n 0, 1) := by decide +kernel
theorem dX6_ofRow_103 : decode cX6_ofRow 103 = .ok (.getfield 12, 3) := by decide +kernel
theorem dX6_ofRow_106 : decode cX6_ofRow 106 = .ok (.iload_n 1, 1) := by decide +kernel
theorem dX6_ofRow_107 : decode cX6_ofRow 107 = .ok (.invokevirtual 272, 3) := by decide +kernel
theorem dX6_ofRow_110 : decode cX6_ofRow 110 = .ok (.aload_n 0, 1) := by decide +kernel
theorem dX6_ofRow_111 : decode cX6_ofRow 111 = .ok (.getfield 50, 3) := by decide +kernel
theorem dX6_ofRow_114 : decode cX6_ofRow 114 = .ok (.getfield 280, 3) := by decide +kernel
theorem dX6_ofRow_117 : decode cX6_ofRow 117 = .ok (.ireturn, 1) := by decide +kernel
theorem dX6_ofRow_118 : decode cX6_ofRow 118 = .ok (.aload_n 0, 1) := by decide +kernel
theorem dX6_ofRow_119 : decode cX6_ofRow 119 = .ok (.getfield 12, 3) := by decide +kernel
theorem dX6_ofRow_122 : decode cX6_ofRow 122 = .ok (.iload_n 1, 1) := by decide +kernel
theorem dX6_ofRow_123 : decode cX6_ofRow 123 = .ok (.invokevirtual 283, 3) := by decide +kernel
theorem dX6_ofRow_126 : decode cX6_ofRow 126 = .ok (.ireturn, 1) := by decide +kernel
theorem dX6_ofAll_0 : decode cX6_ofAll 0 = .ok (.iload_n 1, 1) := by decide +kernel
theorem dX6_ofAll_1 : decode cX6_ofAll 1 = .ok (.tableswitch 113 0 7 #[47, 55, 63, 71, 79, 87, 95, 104], 47) := by decide +kernel
theorem dX6_ofAll_48 : decode cX6_ofAll 48 = .ok (.aload_n 0, 1) := by decide +kernel
theorem dX6_ofAll_49 : decode cX6_ofAll 49 = .ok (.getfield 12, 3) := by decide +kernel
theorem dX6_ofAll_52 : decode cX6_ofAll 52 = .ok (.invokevirtual 165, 3) := by decide +kernel
theorem dX6_ofAll_55 : decode cX6_ofAll 55 = .ok (.ireturn, 1) := by decide +kernel
theorem dX6_ofAll_56 : decode cX6_ofAll 56 = .ok (.aload_n 0, 1) := by decide +kernel
theorem dX6_ofAll_57 : decode cX6_ofAll 57 = .ok (.getfield 12, 3) := by decide +kernel
theorem dX6_ofAll_60 : decode cX6_ofAll 60 = .ok (.invokevirtual 103, 3) := by decide +kernel
theorem dX6_ofAll_63 : decode cX6_ofAll 63 = .ok (.ireturn, 1) := by decide +kernel
theorem dX6_ofAll_64 : decode cX6_ofAll 64 = .ok (.aload_n 0, 1) := by decide +kernel
theorem dX6_ofAll_65 : decode cX6_ofAll 65 = .ok (.getfield 12, 3) := by decide +kernel
theorem dX6_ofAll_68 : decode cX6_ofAll 68 = .ok (.getfield 286, 3) := by decide +kernel
theorem dX6_ofAll_71 : decode cX6_ofAll 71 = .ok (.ireturn, 1) := by decide +kernel
theorem dX6_ofAll_72 : decode cX6_ofAll 72 = .ok (.aload_n 0, 1) := by decide +kernel
theorem dX6_ofAll_73 : decode cX6_ofAll 73 = .ok (.getfield 12, 3) := by decide +kernel
theorem dX6_ofAll_76 : decode cX6_ofAll 76 = .ok (.getfield 289, 3) := by decide +kernel
theorem dX6_ofAll_79 : decode cX6_ofAll 79 = .ok (.ireturn, 1) := by decide +kernel
theorem dX6_ofAll_80 : decode cX6_ofAll 80 = .ok (.aload_n 0, 1) := by decide +kernel
theorem dX6_ofAll_81 : decode cX6_ofAll 81 = .ok (.getfield 12, 3) := by decide +kernel
theorem dX6_ofAll_84 : decode cX6_ofAll 84 = .ok (.getfield 292, 3) := by decide +kernel
theorem dX6_ofAll_87 : decode cX6_ofAll 87 = .ok (.ireturn, 1) := by decide +kernel
theorem dX6_ofAll_88 : decode cX6_ofAll 88 = .ok (.aload_n 0, 1) := by decide +kernel
theorem dX6_ofAll_89 : decode cX6_ofAll 89 = .ok (.getfield 12, 3) := by decide +kernel
theorem dX6_ofAll_92 : decode cX6_ofAll 92 = .ok (.invokevirtual 295, 3) := by decide +kernel
theorem dX6_ofAll_95 : decode cX6_ofAll 95 = .ok (.ireturn, 1) := by decide +kernel
theorem dX6_ofAll_96 : decode cX6_ofAll 96 = .ok (.aload_n 0, 1) := by decide +kernel
theorem dX6_ofAll_97 : decode cX6_ofAll 97 = .ok (.getfield 12, 3) := by decide +kernel
theorem dX6_ofAll_100 : decode cX6_ofAll 100 = .ok (.iconst 0, 1) := by decide +kernel
theorem dX6_ofAll_101 : decode cX6_ofAll 101 = .ok (.invokevirtual 126, 3) := by decide +kernel
theorem dX6_ofAll_104 : decode cX6_ofAll 104 = .ok (.ireturn, 1) := by decide +kernel
theorem dX6_ofAll_105 : decode cX6_ofAll 105 = .ok (.aload_n 0, 1) := by decide +kernel
theorem dX6_ofAll_106 : decode cX6_ofAll 106 = .ok (.getfield 12, 3) := by decide +kernel
theorem dX6_ofAll_109 : decode cX6_ofAll 109 = .ok (.iconst 1, 1) := by decide +kernel
theorem dX6_ofAll_110 : decode cX6_ofAll 110 = .ok (.invokevirtual 126, 3) := by decide +kernel
theorem dX6_ofAll_113 : decode cX6_ofAll 113 = .ok (.ireturn, 1) := by decide +kernel
theorem dX6_ofAll_114 : decode cX6_ofAll 114 = .ok (.aload_n 0, 1) := by decide +kernel
theorem dX6_ofAll_115 : decode cX6_ofAll 115 = .ok (.getfield 29, 3) := by decide +kernel
theorem dX6_ofAll_118 : decode cX6_ofAll 118 = .ok (.invokevirtual 158, 3) := by decide +kernel
theorem dX6_ofAll_121 : decode cX6_ofAll 121 = .ok (.ireturn, 1) := by decide +kernel
theorem dX6_bestPair_0 : decode cX6_bestPair 0 = .ok (.iconst (-1), 1) := by decide +kernel
theorem dX6_bestPair_1 : decode cX6_bestPair 1 = .ok (.istore_n 2, 1) := by decide +kernel
theorem dX6_bestPair_2 : decode cX6_bestPair 2 = .ok (.aload_n 0, 1) := by decide +kernel
theorem dX6_bestPair_3 : decode cX6_bestPair 3 = .ok (.getfield 12, 3) := by decide +kernel
theorem dX6_bestPair_6 : decode cX6_bestPair 6 = .ok (.invokevirtual 103, 3) := by decide +kernel
theorem dX6_bestPair_9 : decode cX6_bestPair 9 = .ok (.istore_n 3, 1) := by decide +kernel
theorem dX6_bestPair_10 : decode cX6_bestPair 10 = .ok (.aload_n 0, 1) := by decide +kernel
theorem dX6_bestPair_11 : decode cX6_bestPair 11 = .ok (.getfield 12, 3) := by decide +kernel
theorem dX6_bestPair_14 : decode cX6_bestPair 14 = .ok (.iload_n 1, 1) := by decide +kernel
theorem dX6_bestPair_15 : decode cX6_bestPair 15 = .ok (.invokevirtual 107, 3) := by decide +kernel
theorem dX6_bestPair_18 : decode cX6_bestPair 18 = .ok (.istore 4, 2) := by decide +kernel
theorem dX6_bestPair_20 : decode cX6_bestPair 20 = .ok (.aload_n 0, 1) := by decide +kernel
theorem dX6_bestPair_21 : decode cX6_bestPair 21 = .ok (.getfield 16, 3) := by decide +kernel
theorem dX6_bestPair_24 : decode cX6_bestPair 24 = .ok (.aload_n 0, 1) := by decide +kernel
theorem dX6_bestPair_25 : decode cX6_bestPair 25 = .ok (.getfield 12, 3) := by decide +kernel
theorem dX6_bestPair_28 : decode cX6_bestPair 28 = .ok (.invokevirtual 162, 3) := by decide +kernel
theorem dX6_bestPair_31 : decode cX6_bestPair 31 = .ok (.iconst 0, 1) := by decide +kernel
theorem dX6_bestPair_32 : decode cX6_bestPair 32 = .ok (.istore 5, 2) := by decide +kernel
theorem dX6_bestPair_34 : decode cX6_bestPair 34 = .ok (.iload 5, 2) := by decide +kernel
theorem dX6_bestPair_36 : decode cX6_bestPair 36 = .ok (.iload 4, 2) := by decide +kernel
theorem dX6_bestPair_38 : decode cX6_bestPair 38 = .ok (.if_icmp .ge 81, 3) := by decide +kernel
theorem dX6_bestPair_41 : decode cX6_bestPair 41 = .ok (.iload 5, 2) := by decide +kernel
theorem dX6_bestPair_43 : decode cX6_bestPair 43 = .ok (.iconst 1, 1) := by decide +kernel
theorem dX6_bestPair_44 : decode cX6_bestPair 44 = .ok (.iadd, 1) := by decide +kernel
theorem dX6_bestPair_45 : decode cX6_bestPair 45 = .ok (.istore 6, 2) := by decide +kernel
theorem dX6_bestPair_47 : decode cX6_bestPair 47 = .ok (.iload 6, 2) := by decide +kernel
theorem dX6_bestPair_49 : decode cX6_bestPair 49 = .ok (.iload 4, 2) := by decide +kernel
theorem dX6_bestPair_51 : decode cX6_bestPair 51 = .ok (.if_icmp .ge 62, 3) := by decide +kernel
theorem dX6_bestPair_54 : decode cX6_bestPair 54 = .ok (.aload_n 0, 1) := by decide +kernel
theorem dX6_bestPair_55 : decode cX6_bestPair 55 = .ok (.getfield 16, 3) := by decide +kernel
theorem dX6_bestPair_58 : decode cX6_bestPair 58 = .ok (.iload_n 1, 1) := by decide +kernel
theorem dX6_bestPair_59 : decode cX6_bestPair 59 = .ok (.iload 5, 2) := by decide +kernel
theorem dX6_bestPair_61 : decode cX6_bestPair 61 = .ok (.iload_n 1, 1) := by decide +kernel
theorem dX6_bestPair_62 : decode cX6_bestPair 62 = .ok (.iload 6, 2) := by decide +kernel
theorem dX6_bestPair_64 : decode cX6_bestPair 64 = .ok (.invokevirtual 180, 3) := by decide +kernel
theorem dX6_bestPair_67 : decode cX6_bestPair 67 = .ok (.aload_n 0, 1) := by decide +kernel
theorem dX6_bestPair_68 : decode cX6_bestPair 68 = .ok (.getfield 16, 3) := by decide +kernel
theorem dX6_bestPair_71 : decode cX6_bestPair 71 = .ok (.invokevirtual 103, 3) := by decide +kernel
theorem dX6_bestPair_74 : decode cX6_bestPair 74 = .ok (.istore 7, 2) := by decide +kernel
theorem dX6_bestPair_76 : decode cX6_bestPair 76 = .ok (.aload_n 0, 1) := by decide +kernel
theorem dX6_bestPair_77 : decode cX6_bestPair 77 = .ok (.getfield 16, 3) := by decide +kernel
theorem dX6_bestPair_80 : decode cX6_bestPair 80 = .ok (.iload_n 1, 1) := by decide +kernel
theorem dX6_bestPair_81 : decode cX6_bestPair 81 = .ok (.iload 5, 2) := by decide +kernel
theorem dX6_bestPair_83 : decode cX6_bestPair 83 = .ok (.iload_n 1, 1) := by decide +kernel
theorem dX6_bestPair_84 : decode cX6_bestPair 84 = .ok (.iload 6, 2) := by decide +kernel
theorem dX6_bestPair_86 : decode cX6_bestPair 86 = .ok (.invokevirtual 180, 3) := by decide +kernel
theorem dX6_bestPair_89 : decode cX6_bestPair 89 = .ok (.iload 7, 2) := by decide +kernel
theorem dX6_bestPair_91 : decode cX6_bestPair 91 = .ok (.iload_n 3, 1) := by decide +kernel
theorem dX6_bestPair_92 : decode cX6_bestPair 92 = .ok (.if_icmp .le 15, 3) := by decide +kernel
theorem dX6_bestPair_95 : decode cX6_bestPair 95 = .ok (.iload 7, 2) := by decide +kernel
theorem dX6_bestPair_97 : decode cX6_bestPair 97 = .ok (.istore_n 3, 1) := by decide +kernel
theorem dX6_bestPair_98 : decode cX6_bestPair 98 = .ok (.bipush 6, 2) := by decide +kernel
theorem dX6_bestPair_100 : decode cX6_bestPair 100 = .ok (.iload 5, 2) := by decide +kernel
theorem dX6_bestPair_102 : decode cX6_bestPair 102 = .ok (.imul, 1) := by decide +kernel
theorem dX6_bestPair_103 : decode cX6_bestPair 103 = .ok (.iload 6, 2) := by decide +kernel
theorem dX6_bestPair_105 : decode cX6_bestPair 105 = .ok (.iadd, 1) := by decide +kernel
theorem dX6_bestPair_106 : decode cX6_bestPair 106 = .ok (.istore_n 2, 1) := by decide +kernel
theorem dX6_bestPair_107 : decode cX6_bestPair 107 = .ok (.iinc 6 1, 3) := by decide +kernel
theorem dX6_bestPair_110 : decode cX6_bestPair 110 = .ok (.goto (-63), 3) := by decide +kernel
theorem dX6_bestPair_113 : decode cX6_bestPair 113 = .ok (.iinc 5 1, 3) := by decide +kernel
theorem dX6_bestPair_116 : decode cX6_bestPair 116 = .ok (.goto (-82), 3) := by decide +kernel
theorem dX6_bestPair_119 : decode cX6_bestPair 119 = .ok (.iload_n 2, 1) := by decide +kernel
theorem dX6_bestPair_120 : decode cX6_bestPair 120 = .ok (.ireturn, 1) := by decide +kernel
theorem dX6_bestRowFor_0 : decode cX6_bestRowFor 0 = .ok (.iconst (-1), 1) := by decide +kernel
theorem dX6_bestRowFor_1 : decode cX6_bestRowFor 1 = .ok (.istore_n 2, 1) := by decide +kernel
theorem dX6_bestRowFor_2 : decode cX6_bestRowFor 2 = .ok (.iconst (-1), 1) := by decide +kernel
theorem dX6_bestRowFor_3 : decode cX6_bestRowFor 3 = .ok (.istore_n 3, 1) := by decide +kernel
theorem dX6_bestRowFor_4 : decode cX6_bestRowFor 4 = .ok (.iconst 0, 1) := by decide +kernel
theorem dX6_bestRowFor_5 : decode cX6_bestRowFor 5 = .ok (.istore 4, 2) := by decide +kernel
theorem dX6_bestRowFor_7 : decode cX6_bestRowFor 7 = .ok (.iload 4, 2) := by decide +kernel
theorem dX6_bestRowFor_9 : decode cX6_bestRowFor 9 = .ok (.iconst 4, 1) := by decide +kernel
theorem dX6_bestRowFor_10 : decode cX6_bestRowFor 10 = .ok (.if_icmp .ge 67, 3) := by decide +kernel
theorem dX6_bestRowFor_13 : decode cX6_bestRowFor 13 = .ok (.aload_n 0, 1) := by decide +kernel
theorem dX6_bestRowFor_14 : decode cX6_bestRowFor 14 = .ok (.getfield 12, 3) := by decide +kernel
theorem dX6_bestRowFor_17 : decode cX6_bestRowFor 17 = .ok (.iload 4, 2) := by decide +kernel
theorem dX6_bestRowFor_19 : decode cX6_bestRowFor 19 = .ok (.invokevirtual 107, 3) := by decide +kernel
theorem dX6_bestRowFor_22 : decode cX6_bestRowFor 22 = .ok (.bipush 6, 2) := by decide +kernel
theorem dX6_bestRowFor_24 : decode cX6_bestRowFor 24 = .ok (.if_icmp .ge 47, 3) := by decide +kernel
theorem dX6_bestRowFor_27 : decode cX6_bestRowFor 27 = .ok (.aload_n 0, 1) := by decide +kernel
theorem dX6_bestRowFor_28 : decode cX6_bestRowFor 28 = .ok (.getfield 16, 3) := by decide +kernel
theorem dX6_bestRowFor_31 : decode cX6_bestRowFor 31 = .ok (.aload_n 0, 1) := by decide +kernel
theorem dX6_bestRowFor_32 : decode cX6_bestRowFor 32 = .ok (.getfield 12, 3) := by decide +kernel
theorem dX6_bestRowFor_35 : decode cX6_bestRowFor 35 = .ok (.invokevirtual 162, 3) := by decide +kernel
theorem dX6_bestRowFor_38 : decode cX6_bestRowFor 38 = .ok (.aload_n 0, 1) := by decide +kernel
theorem dX6_bestRowFor_39 : decode cX6_bestRowFor 39 = .ok (.getfield 16, 3) := by decide +kernel
theorem dX6_bestRowFor_42 : decode cX6_bestRowFor 42 = .ok (.iload 4, 2) := by decide +kernel
theorem dX6_bestRowFor_44 : decode cX6_bestRowFor 44 = .ok (.iload_n 1, 1) := by decide +kernel
theorem dX6_bestRowFor_45 : decode cX6_bestRowFor 45 = .ok (.iconst 0, 1) := by decide +kernel
theorem dX6_bestRowFor_46 : decode cX6_bestRowFor 46 = .ok (.invokevirtual 80, 3) := by decide +kernel
theorem dX6_bestRowFor_49 : decode cX6_bestRowFor 49 = .ok (.pop, 1) := by decide +kernel
theorem dX6_bestRowFor_50 : decode cX6_bestRowFor 50 = .ok (.aload_n 0, 1) := by decide +kernel
theorem dX6_bestRowFor_51 : decode cX6_bestRowFor 51 = .ok (.getfield 16, 3) := by decide +kernel
theorem dX6_bestRowFor_54 : decode cX6_bestRowFor 54 = .ok (.invokevirtual 103, 3) := by decide +kernel
theorem dX6_bestRowFor_57 : decode cX6_bestRowFor 57 = .ok (.istore 5, 2) := by decide +kernel
theorem dX6_bestRowFor_59 : decode cX6_bestRowFor 59 = .ok (.iload 5, 2) := by decide +kernel
theorem dX6_bestRowFor_61 : decode cX6_bestRowFor 61 = .ok (.iload_n 3, 1) := by decide +kernel
theorem dX6_bestRowFor_62 : decode cX6_bestRowFor 62 = .ok (.if_icmp .le 9, 3) := by decide +kernel
theorem dX6_bestRowFor_65 : decode cX6_bestRowFor 65 = .ok (.iload 5, 2) := by decide +kernel
theorem dX6_bestRowFor_67 : decode cX6_bestRowFor 67 = .ok (.istore_n 3, 1) := by decide +kernel
theorem dX6_bestRowFor_68 : decode cX6_bestRowFor 68 = .ok (.iload 4, 2) := by decide +kernel
theorem dX6_bestRowFor_70 : decode cX6_bestRowFor 70 = .ok (.istore_n 2, 1) := by decide +kernel
theorem dX6_bestRowFor_71 : decode cX6_bestRowFor 71 = .ok (.iinc 4 1, 3) := by decide +kernel
theorem dX6_bestRowFor_74 : decode cX6_bestRowFor 74 = .ok (.goto (-67), 3) := by decide +kernel
theorem dX6_bestRowFor_77 : decode cX6_bestRowFor 77 = .ok (.iload_n 2, 1) := by decide +kernel
theorem dX6_bestRowFor_78 : decode cX6_bestRowFor 78 = .ok (.ireturn, 1) := by decide +kernel
theorem dX6_oddWithReach_0 : decode cX6_oddWithReach 0 = .ok (.aload_n 0, 1) := by decide +kernel
theorem dX6_oddWithReach_1 : decode cX6_oddWithReach 1 = .ok (.getfield 16, 3) := by decide +kernel
theorem dX6_oddWithReach_4 : decode cX6_oddWithReach 4 = .ok (.aload_n 0, 1) := by decide +kernel
theorem dX6_oddWithReach_5 : decode cX6_oddWithReach 5 = .ok (.getfield 12, 3) := by decide +kernel
theorem dX6_oddWithReach_8 : decode cX6_oddWithReach 8 = .ok (.invokevirtual 162, 3) := by decide +kernel
theorem dX6_oddWithReach_11 : decode cX6_oddWithReach 11 = .ok (.aload_n 0, 1) := by decide +kernel
theorem dX6_oddWithReach_12 : decode cX6_oddWithReach 12 = .ok (.getfield 16, 3) := by decide +kernel
theorem dX6_oddWithReach_15 : decode cX6_oddWithReach 15 = .ok (.iconst 0, 1) := by decide +kernel
theorem dX6_oddWithReach_16 : decode cX6_oddWithReach 16 = .ok (.iload_n 1, 1) := by decide +kernel
theorem dX6_oddWithReach_17 : decode cX6_oddWithReach 17 = .ok (.invokevirtual 129, 3) := by decide +kernel
theorem dX6_oddWithReach_20 : decode cX6_oddWithReach 20 = .ok (.aload_n 0, 1) := by decide +kernel
theorem dX6_oddWithReach_21 : decode cX6_oddWithReach 21 = .ok (.getfield 16, 3) := by decide +kernel
theorem dX6_oddWithReach_24 : decode cX6_oddWithReach 24 = .ok (.invokevirtual 103, 3) := by decide +kernel
theorem dX6_oddWithReach_27 : decode cX6_oddWithReach 27 = .ok (.ireturn, 1) := by decide +kernel
theorem dX6_mix_0 : decode cX6_mix 0 = .ok (.ldc2_w 298, 3) := by decide +kernel
theorem dX6_mix_3 : decode cX6_mix 3 = .ok (.lload_n 0, 1) := by decide +kernel
theorem dX6_mix_4 : decode cX6_mix 4 = .ok (.lmul, 1) := by decide +kernel
theorem dX6_mix_5 : decode cX6_mix 5 = .ok (.lload_n 2, 1) := by decide +kernel
theorem dX6_mix_6 : decode cX6_mix 6 = .ok (.ladd, 1) := by decide +kernel
theorem dX6_mix_7 : decode cX6_mix 7 = .ok (.lreturn, 1) := by decide +kernel
theorem dX6_mixSingers_0 : decode cX6_mixSingers 0 = .ok (.lload_n 1, 1) := by decide +kernel
theorem dX6_mixSingers_1 : decode cX6_mixSingers 1 = .ok (.lstore 4, 2) := by decide +kernel
theorem dX6_mixSingers_3 : decode cX6_mixSingers 3 = .ok (.aload_n 0, 1) := by decide +kernel
theorem dX6_mixSingers_4 : decode cX6_mixSingers 4 = .ok (.getfield 12, 3) := by decide +kernel
theorem dX6_mixSingers_7 : decode cX6_mixSingers 7 = .ok (.iload_n 3, 1) := by decide +kernel
theorem dX6_mixSingers_8 : decode cX6_mixSingers 8 = .ok (.invokevirtual 107, 3) := by decide +kernel
theorem dX6_mixSingers_11 : decode cX6_mixSingers 11 = .ok (.istore 6, 2) := by decide +kernel
theorem dX6_mixSingers_13 : decode cX6_mixSingers 13 = .ok (.iconst 0, 1) := by decide +kernel
theorem dX6_mixSingers_14 : decode cX6_mixSingers 14 = .ok (.istore 7, 2) := by decide +kernel
theorem dX6_mixSingers_16 : decode cX6_mixSingers 16 = .ok (.iload 7, 2) := by decide +kernel
theorem dX6_mixSingers_18 : decode cX6_mixSingers 18 = .ok (.iload 6, 2) := by decide +kernel
theorem dX6_mixSingers_20 : decode cX6_mixSingers 20 = .ok (.if_icmp .ge 42, 3) := by decide +kernel
theorem dX6_mixSingers_23 : decode cX6_mixSingers 23 = .ok (.iconst 0, 1) := by decide +kernel
theorem dX6_mixSingers_24 : decode cX6_mixSingers 24 = .ok (.istore 8, 2) := by decide +kernel
theorem dX6_mixSingers_26 : decode cX6_mixSingers 26 = .ok (.iload 8, 2) := by decide +kernel
theorem dX6_mixSingers_28 : decode cX6_mixSingers 28 = .ok (.bipush 7, 2) := by decide +kernel
theorem dX6_mixSingers_30 : decode cX6_mixSingers 30 = .ok (.if_icmp .gt 26, 3) := by decide +kernel
theorem dX6_mixSingers_33 : decode cX6_mixSingers 33 = .ok (.lload 4, 2) := by decide +kernel
theorem dX6_mixSingers_35 : decode cX6_mixSingers 35 = .ok (.aload_n 0, 1) := by decide +kernel
theorem dX6_mixSingers_36 : decode cX6_mixSingers 36 = .ok (.iload_n 3, 1) := by decide +kernel
theorem dX6_mixSingers_37 : decode cX6_mixSingers 37 = .ok (.iload 7, 2) := by decide +kernel
theorem dX6_mixSingers_39 : decode cX6_mixSingers 39 = .ok (.iload 8, 2) := by decide +kernel
theorem dX6_mixSingers_41 : decode cX6_mixSingers 41 = .ok (.invokevirtual 168, 3) := by decide +kernel
theorem dX6_mixSingers_44 : decode cX6_mixSingers 44 = .ok (.i2l, 1) := by decide +kernel
theorem dX6_mixSingers_45 : decode cX6_mixSingers 45 = .ok (.invokestatic 194, 3) := by decide +kernel
theorem dX6_mixSingers_48 : decode cX6_mixSingers 48 = .ok (.lstore 4, 2) := by decide +kernel
theorem dX6_mixSingers_50 : decode cX6_mixSingers 50 = .ok (.iinc 8 1, 3) := by decide +kernel
theorem dX6_mixSingers_53 : decode cX6_mixSingers 53 = .ok (.goto (-27), 3) := by decide +kernel
theorem dX6_mixSingers_56 : decode cX6_mixSingers 56 = .ok (.iinc 7 1, 3) := by decide +kernel
theorem dX6_mixSingers_59 : decode cX6_mixSingers 59 = .ok (.goto (-43), 3) := by decide +kernel
theorem dX6_mixSingers_62 : decode cX6_mixSingers 62 = .ok (.lload 4, 2) := by decide +kernel
theorem dX6_mixSingers_64 : decode cX6_mixSingers 64 = .ok (.lreturn, 1) := by decide +kernel
theorem dX6_mixWritten_0 : decode cX6_mixWritten 0 = .ok (.lload_n 1, 1) := by decide +kernel
theorem dX6_mixWritten_1 : decode cX6_mixWritten 1 = .ok (.lstore 4, 2) := by decide +kernel
theorem dX6_mixWritten_3 : decode cX6_mixWritten 3 = .ok (.aload_n 0, 1) := by decide +kernel
theorem dX6_mixWritten_4 : decode cX6_mixWritten 4 = .ok (.getfield 12, 3) := by decide +kernel
theorem dX6_mixWritten_7 : decode cX6_mixWritten 7 = .ok (.iload_n 3, 1) := by decide +kernel
theorem dX6_mixWritten_8 : decode cX6_mixWritten 8 = .ok (.invokevirtual 300, 3) := by decide +kernel
theorem dX6_mixWritten_11 : decode cX6_mixWritten 11 = .ok (.istore 6, 2) := by decide +kernel
theorem dX6_mixWritten_13 : decode cX6_mixWritten 13 = .ok (.iconst 0, 1) := by decide +kernel
theorem dX6_mixWritten_14 : decode cX6_mixWritten 14 = .ok (.istore 7, 2) := by decide +kernel
theorem dX6_mixWritten_16 : decode cX6_mixWritten 16 = .ok (.iload 7, 2) := by decide +kernel
theorem dX6_mixWritten_18 : decode cX6_mixWritten 18 = .ok (.iload 6, 2) := by decide +kernel
theorem dX6_mixWritten_20 : decode cX6_mixWritten 20 = .ok (.if_icmp .ge 27, 3) := by decide +kernel
theorem dX6_mixWritten_23 : decode cX6_mixWritten 23 = .ok (.lload 4, 2) := by decide +kernel
theorem dX6_mixWritten_25 : decode cX6_mixWritten 25 = .ok (.aload_n 0, 1) := by decide +kernel
theorem dX6_mixWritten_26 : decode cX6_mixWritten 26 = .ok (.getfield 12, 3) := by decide +kernel
theorem dX6_mixWritten_29 : decode cX6_mixWritten 29 = .ok (.iload_n 3, 1) := by decide +kernel
theorem dX6_mixWritten_30 : decode cX6_mixWritten 30 = .ok (.iload 7, 2) := by decide +kernel
theorem dX6_mixWritten_32 : decode cX6_mixWritten 32 = .ok (.invokevirtual 155, 3) := by decide +kernel
theorem dX6_mixWritten_35 : decode cX6_mixWritten 35 = .ok (.i2l, 1) := by decide +kernel
theorem dX6_mixWritten_36 : decode cX6_mixWritten 36 = .ok (.invokestatic 194, 3) := by decide +kernel
theorem dX6_mixWritten_39 : decode cX6_mixWritten 39 = .ok (.lstore 4, 2) := by decide +kernel
theorem dX6_mixWritten_41 : decode cX6_mixWritten 41 = .ok (.iinc 7 1, 3) := by decide +kernel
theorem dX6_mixWritten_44 : decode cX6_mixWritten 44 = .ok (.goto (-28), 3) := by decide +kernel
theorem dX6_mixWritten_47 : decode cX6_mixWritten 47 = .ok (.lload 4, 2) := by decide +kernel
theorem dX6_mixWritten_49 : decode cX6_mixWritten 49 = .ok (.lreturn, 1) := by decide +kernel
theorem dX6_mixText_0 : decode cX6_mixText 0 = .ok (.lload_n 1, 1) := by decide +kernel
theorem dX6_mixText_1 : decode cX6_mixText 1 = .ok (.aload_n 0, 1) := by decide +kernel
theorem dX6_mixText_2 : decode cX6_mixText 2 = .ok (.getfield 36, 3) := by decide +kernel
theorem dX6_mixText_5 : decode cX6_mixText 5 = .ok (.invokevirtual 132, 3) := by decide +kernel
theorem dX6_mixText_8 : decode cX6_mixText 8 = .ok (.i2l, 1) := by decide +kernel
theorem dX6_mixText_9 : decode cX6_mixText 9 = .ok (.invokestatic 194, 3) := by decide +kernel
theorem dX6_mixText_12 : decode cX6_mixText 12 = .ok (.lstore_n 3, 1) := by decide +kernel
theorem dX6_mixText_13 : decode cX6_mixText 13 = .ok (.iconst 0, 1) := by decide +kernel
theorem dX6_mixText_14 : decode cX6_mixText 14 = .ok (.istore 5, 2) := by decide +kernel
theorem dX6_mixText_16 : decode cX6_mixText 16 = .ok (.iload 5, 2) := by decide +kernel
theorem dX6_mixText_18 : decode cX6_mixText 18 = .ok (.aload_n 0, 1) := by decide +kernel
theorem dX6_mixText_19 : decode cX6_mixText 19 = .ok (.getfield 36, 3) := by decide +kernel
theorem dX6_mixText_22 : decode cX6_mixText 22 = .ok (.invokevirtual 132, 3) := by decide +kernel
theorem dX6_mixText_25 : decode cX6_mixText 25 = .ok (.if_icmp .ge 24, 3) := by decide +kernel
theorem dX6_mixText_28 : decode cX6_mixText 28 = .ok (.lload_n 3, 1) := by decide +kernel
theorem dX6_mixText_29 : decode cX6_mixText 29 = .ok (.aload_n 0, 1) := by decide +kernel
theorem dX6_mixText_30 : decode cX6_mixText 30 = .ok (.getfield 36, 3) := by decide +kernel
theorem dX6_mixText_33 : decode cX6_mixText 33 = .ok (.iload 5, 2) := by decide +kernel
theorem dX6_mixText_35 : decode cX6_mixText 35 = .ok (.invokevirtual 230, 3) := by decide +kernel
theorem dX6_mixText_38 : decode cX6_mixText 38 = .ok (.i2l, 1) := by decide +kernel
theorem dX6_mixText_39 : decode cX6_mixText 39 = .ok (.invokestatic 194, 3) := by decide +kernel
theorem dX6_mixText_42 : decode cX6_mixText 42 = .ok (.lstore_n 3, 1) := by decide +kernel
theorem dX6_mixText_43 : decode cX6_mixText 43 = .ok (.iinc 5 1, 3) := by decide +kernel
theorem dX6_mixText_46 : decode cX6_mixText 46 = .ok (.goto (-30), 3) := by decide +kernel
theorem dX6_mixText_49 : decode cX6_mixText 49 = .ok (.lload_n 3, 1) := by decide +kernel
theorem dX6_mixText_50 : decode cX6_mixText 50 = .ok (.lreturn, 1) := by decide +kernel
theorem dX6_bitsOfShare_0 : decode cX6_bitsOfShare 0 = .ok (.dload_n 0, 1) := by decide +kernel
theorem dX6_bitsOfShare_1 : decode cX6_bitsOfShare 1 = .ok (.dconst 0, 1) := by decide +kernel
theorem dX6_bitsOfShare_2 : decode cX6_bitsOfShare 2 = .ok (.dcmp .g, 1) := by decide +kernel
theorem dX6_bitsOfShare_3 : decode cX6_bitsOfShare 3 = .ok (.ifCond .gt 5, 3) := by decide +kernel
theorem dX6_bitsOfShare_6 : decode cX6_bitsOfShare 6 = .ok (.lconst 0, 1) := by decide +kernel
theorem dX6_bitsOfShare_7 : decode cX6_bitsOfShare 7 = .ok (.lreturn, 1) := by decide +kernel
theorem dX6_bitsOfShare_8 : decode cX6_bitsOfShare 8 = .ok (.dload_n 0, 1) := by decide +kernel
theorem dX6_bitsOfShare_9 : decode cX6_bitsOfShare 9 = .ok (.dstore_n 2, 1) := by decide +kernel
theorem dX6_bitsOfShare_10 : decode cX6_bitsOfShare 10 = .ok (.ldc2_w 303, 3) := by decide +kernel
theorem dX6_bitsOfShare_13 : decode cX6_bitsOfShare 13 = .ok (.lstore 4, 2) := by decide +kernel
theorem dX6_bitsOfShare_15 : decode cX6_bitsOfShare 15 = .ok (.iconst 0, 1) := by decide +kernel
theorem dX6_bitsOfShare_16 : decode cX6_bitsOfShare 16 = .ok (.istore 6, 2) := by decide +kernel
theorem dX6_bitsOfShare_18 : decode cX6_bitsOfShare 18 = .ok (.iload 6, 2) := by decide +kernel
theorem dX6_bitsOfShare_20 : decode cX6_bitsOfShare 20 = .ok (.bipush 64, 2) := by decide +kernel
theorem dX6_bitsOfShare_22 : decode cX6_bitsOfShare 22 = .ok (.if_icmp .ge 27, 3) := by decide +kernel
theorem dX6_bitsOfShare_25 : decode cX6_bitsOfShare 25 = .ok (.dload_n 2, 1) := by decide +kernel
theorem dX6_bitsOfShare_26 : decode cX6_bitsOfShare 26 = .ok (.dconst 1, 1) := by decide +kernel
theorem dX6_bitsOfShare_27 : decode cX6_bitsOfShare 27 = .ok (.dcmp .g, 1) := by decide +kernel
theorem dX6_bitsOfShare_28 : decode cX6_bitsOfShare 28 = .ok (.ifCond .ge 21, 3) := by decide +kernel
theorem dX6_bitsOfShare_31 : decode cX6_bitsOfShare 31 = .ok (.dload_n 2, 1) := by decide +kernel
theorem dX6_bitsOfShare_32 : decode cX6_bitsOfShare 32 = .ok (.ldc2_w 305, 3) := by decide +kernel
theorem dX6_bitsOfShare_35 : decode cX6_bitsOfShare 35 = .ok (.dmul, 1) := by decide +kernel
theorem dX6_bitsOfShare_36 : decode cX6_bitsOfShare 36 = .ok (.dstore_n 2, 1) := by decide +kernel
theorem dX6_bitsOfShare_37 : decode cX6_bitsOfShare 37 = .ok (.lload 4, 2) := by decide +kernel
theorem dX6_bitsOfShare_39 : decode cX6_bitsOfShare 39 = .ok (.lconst 1, 1) := by decide +kernel
theorem dX6_bitsOfShare_40 : decode cX6_bitsOfShare 40 = .ok (.lsub, 1) := by decide +kernel
theorem dX6_bitsOfShare_41 : decode cX6_bitsOfShare 41 = .ok (.lstore 4, 2) := by decide +kernel
theorem dX6_bitsOfShare_43 : decode cX6_bitsOfShare 43 = .ok (.iinc 6 1, 3) := by decide +kernel
theorem dX6_bitsOfShare_46 : decode cX6_bitsOfShare 46 = .ok (.goto (-28), 3) := by decide +kernel
theorem dX6_bitsOfShare_49 : decode cX6_bitsOfShare 49 = .ok (.dload_n 2, 1) := by decide +kernel
theorem dX6_bitsOfShare_50 : decode cX6_bitsOfShare 50 = .ok (.dconst 1, 1) := by decide +kernel
theorem dX6_bitsOfShare_51 : decode cX6_bitsOfShare 51 = .ok (.dsub, 1) := by decide +kernel
theorem dX6_bitsOfShare_52 : decode cX6_bitsOfShare 52 = .ok (.ldc2_w 307, 3) := by decide +kernel
theorem dX6_bitsOfShare_55 : decode cX6_bitsOfShare 55 = .ok (.dmul, 1) := by decide +kernel
theorem dX6_bitsOfShare_56 : decode cX6_bitsOfShare 56 = .ok (.d2l, 1) := by decide +kernel
theorem dX6_bitsOfShare_57 : decode cX6_bitsOfShare 57 = .ok (.lstore 6, 2) := by decide +kernel
theorem dX6_bitsOfShare_59 : decode cX6_bitsOfShare 59 = .ok (.lload 4, 2) := by decide +kernel
theorem dX6_bitsOfShare_61 : decode cX6_bitsOfShare 61 = .ok (.bipush 52, 2) := by decide +kernel
theorem dX6_bitsOfShare_63 : decode cX6_bitsOfShare 63 = .ok (.lshl, 1) := by decide +kernel
theorem dX6_bitsOfShare_64 : decode cX6_bitsOfShare 64 = .ok (.lload 6, 2) := by decide +kernel
theorem dX6_bitsOfShare_66 : decode cX6_bitsOfShare 66 = .ok (.ladd, 1) := by decide +kernel
theorem dX6_bitsOfShare_67 : decode cX6_bitsOfShare 67 = .ok (.lreturn, 1) := by decide +kernel
theorem dX7_init_0 : decode cX7_init 0 = .ok (.aload_n 0, 1) := by decide +kernel
theorem dX7_init_1 : decode cX7_init 1 = .ok (.invokespecial 1, 3) := by decide +kernel
theorem dX7_init_4 : decode cX7_init 4 = .ok (.aload_n 0, 1) := by decide +kernel
theorem dX7_init_5 : decode cX7_init 5 = .ok (.bipush 81, 2) := by decide +kernel
theorem dX7_init_7 : decode cX7_init 7 = .ok (.newarray .int, 2) := by decide +kernel
theorem dX7_init_9 : decode cX7_init 9 = .ok (.putfield 7, 3) := by decide +kernel
theorem dX7_init_12 : decode cX7_init 12 = .ok (.aload_n 0, 1) := by decide +kernel
theorem dX7_init_13 : decode cX7_init 13 = .ok (.sipush 486, 3) := by decide +kernel
theorem dX7_init_16 : decode cX7_init 16 = .ok (.newarray .int, 2) := by decide +kernel
theorem dX7_init_18 : decode cX7_init 18 = .ok (.putfield 13, 3) := by decide +kernel
theorem dX7_init_21 : decode cX7_init 21 = .ok (.aload_n 0, 1) := by decide +kernel
theorem dX7_init_22 : decode cX7_init 22 = .ok (.bipush 81, 2) := by decide +kernel
theorem dX7_init_24 : decode cX7_init 24 = .ok (.newarray .int, 2) := by decide +kernel
theorem dX7_init_26 : decode cX7_init 26 = .ok (.putfield 16, 3) := by decide +kernel
theorem dX7_init_29 : decode cX7_init 29 = .ok (.aload_n 0, 1) := by decide +kernel
theorem dX7_init_30 : decode cX7_init 30 = .ok (.bipush 6, 2) := by decide +kernel
theorem dX7_init_32 : decode cX7_init 32 = .ok (.newarray .int, 2) := by decide +kernel
theorem dX7_init_34 : decode cX7_init 34 = .ok (.putfield 19, 3) := by decide +kernel
theorem dX7_init_37 : decode cX7_init 37 = .ok (.aload_n 0, 1) := by decide +kernel
theorem dX7_init_38 : decode cX7_init 38 = .ok (.bipush 6, 2) := by decide +kernel
theorem dX7_init_40 : decode cX7_init 40 = .ok (.newarray .int, 2) := by decide +kernel
theorem dX7_init_42 : decode cX7_init 42 = .ok (.putfield 22, 3) := by decide +kernel
theorem dX7_init_45 : decode cX7_init 45 = .ok (.aload_n 0, 1) := by decide +kernel
theorem dX7_init_46 : decode cX7_init 46 = .ok (.bipush 60, 2) := by decide +kernel
theorem dX7_init_48 : decode cX7_init 48 = .ok (.newarray .int, 2) := by decide +kernel
theorem dX7_init_50 : decode cX7_init 50 = .ok (.putfield 25, 3) := by decide +kernel
theorem dX7_init_53 : decode cX7_init 53 = .ok (.aload_n 0, 1) := by decide +kernel
theorem dX7_init_54 : decode cX7_init 54 = .ok (.bipush 12, 2) := by decide +kernel
theorem dX7_init_56 : decode cX7_init 56 = .ok (.newarray .int, 2) := by decide +kernel
theorem dX7_init_58 : decode cX7_init 58 = .ok (.putfield 28, 3) := by decide +kernel
theorem dX7_init_61 : decode cX7_init 61 = .ok (.aload_n 0, 1) := by decide +kernel
theorem dX7_init_62 : decode cX7_init 62 = .ok (.bipush 12, 2) := by decide +kernel
theorem dX7_init_64 : decode cX7_init 64 = .ok (.newarray .int, 2) := by decide +kernel
theorem dX7_init_66 : decode cX7_init 66 = .ok (.putfield 31, 3) := by decide +kernel
theorem dX7_init_69 : decode cX7_init 69 = .ok (.aload_n 0, 1) := by decide +kernel
theorem dX7_init_70 : decode cX7_init 70 = .ok (.bipush 12, 2) := by decide +kernel
theorem dX7_init_72 : decode cX7_init 72 = .ok (.newarray .int, 2) := by decide +kernel
theorem dX7_init_74 : decode cX7_init 74 = .ok (.putfield 34, 3) := by decide +kernel
theorem dX7_init_77 : decode cX7_init 77 = .ok (.aload_n 0, 1) := by decide +kernel
theorem dX7_init_78 : decode cX7_init 78 = .ok (.bipush 12, 2) := by decide +kernel
theorem dX7_init_80 : decode cX7_init 80 = .ok (.newarray .int, 2) := by decide +kernel
theorem dX7_init_82 : decode cX7_init 82 = .ok (.putfield 37, 3) := by decide +kernel
theorem dX7_init_85 : decode cX7_init 85 = .ok (.aload_n 0, 1) := by decide +kernel
theorem dX7_init_86 : decode cX7_init 86 = .ok (.getfield 7, 3) := by decide +kernel
theorem dX7_init_89 : decode cX7_init 89 = .ok (.bipush 76, 2) := by decide +kernel
theorem dX7_init_91 : decode cX7_init 91 = .ok (.bipush 6, 2) := by decide +kernel
theorem dX7_init_93 : decode cX7_init 93 = .ok (.iastore, 1) := by decide +kernel
theorem dX7_init_94 : decode cX7_init 94 = .ok (.aload_n 0, 1) := by decide +kernel
theorem dX7_init_95 : decode cX7_init 95 = .ok (.getfield 7, 3) := by decide +kernel
theorem dX7_init_98 : decode cX7_init 98 = .ok (.bipush 77, 2) := by decide +kernel
theorem dX7_init_100 : decode cX7_init 100 = .ok (.iconst 1, 1) := by decide +kernel
theorem dX7_init_101 : decode cX7_init 101 = .ok (.iastore, 1) := by decide +kernel
theorem dX7_init_102 : decode cX7_init 102 = .ok (.return_, 1) := by decide +kernel
theorem dX7_thrown_0 : decode cX7_thrown 0 = .ok (.aload_n 0, 1) := by decide +kernel
theorem dX7_thrown_1 : decode cX7_thrown 1 = .ok (.getfield 40, 3) := by decide +kernel
theorem dX7_thrown_4 : decode cX7_thrown 4 = .ok (.ireturn, 1) := by decide +kernel
theorem dX7_fails_0 : decode cX7_fails 0 = .ok (.aload_n 0, 1) := by decide +kernel
theorem dX7_fails_1 : decode cX7_fails 1 = .ok (.iload_n 1, 1) := by decide +kernel
theorem dX7_fails_2 : decode cX7_fails 2 = .ok (.putfield 40, 3) := by decide +kernel
theorem dX7_fails_5 : decode cX7_fails 5 = .ok (.iconst 0, 1) := by decide +kernel
theorem dX7_fails_6 : decode cX7_fails 6 = .ok (.ireturn, 1) := by decide +kernel
theorem dX7_in_0 : decode cX7_in 0 = .ok (.iload_n 0, 1) := by decide +kernel
theorem dX7_in_1 : decode cX7_in 1 = .ok (.iload_n 1, 1) := by decide +kernel
theorem dX7_in_2 : decode cX7_in 2 = .ok (.if_icmp .lt 12, 3) := by decide +kernel
theorem dX7_in_5 : decode cX7_in 5 = .ok (.iload_n 0, 1) := by decide +kernel
theorem dX7_in_6 : decode cX7_in 6 = .ok (.iload_n 2, 1) := by decide +kernel
theorem dX7_in_7 : decode cX7_in 7 = .ok (.if_icmp .gt 7, 3) := by decide +kernel
theorem dX7_in_10 : decode cX7_in 10 = .ok (.iconst 1, 1) := by decide +kernel
theorem dX7_in_11 : decode cX7_in 11 = .ok (.goto 4, 3) := by decide +kernel
theorem dX7_in_14 : decode cX7_in 14 = .ok (.iconst 0, 1) := by decide +kernel
theorem dX7_in_15 : decode cX7_in 15 = .ok (.ireturn, 1) := by decide +kernel
theorem dX7_isRow_0 : decode cX7_isRow 0 = .ok (.iload_n 0, 1) := by decide +kernel
theorem dX7_isRow_1 : decode cX7_isRow 1 = .ok (.iconst 0, 1) := by decide +kernel
theorem dX7_isRow_2 : decode cX7_isRow 2 = .ok (.iconst 3, 1) := by decide +kernel
theorem dX7_isRow_3 : decode cX7_isRow 3 = .ok (.invokestatic 44, 3) := by decide +kernel
theorem dX7_isRow_6 : decode cX7_isRow 6 = .ok (.ireturn, 1) := by decide +kernel
theorem dX7_isPlace_0 : decode cX7_isPlace 0 = .ok (.iload_n 1, 1) := by decide +kernel
theorem dX7_isPlace_1 : decode cX7_isPlace 1 = .ok (.invokestatic 48, 3) := by decide +kernel
theorem dX7_isPlace_4 : decode cX7_isPlace 4 = .ok (.ifCond .eq 25, 3) := by decide +kernel
theorem dX7_isPlace_7 : decode cX7_isPlace 7 = .ok (.iload_n 2, 1) := by decide +kernel
theorem dX7_isPlace_8 : decode cX7_isPlace 8 = .ok (.iconst 0, 1) := by decide +kernel
theorem dX7_isPlace_9 : decode cX7_isPlace 9 = .ok (.aload_n 0, 1) := by decide +kernel
theorem dX7_isPlace_10 : decode cX7_isPlace 10 = .ok (.getfield 7, 3) := by decide +kernel
theorem dX7_isPlace_13 : decode cX7_isPlace 13 = .ok (.iconst 0, 1) := by decide +kernel
theorem dX7_isPlace_14 : decode cX7_isPlace 14 = .ok (.iload_n 1, 1) := by decide +kernel
theorem dX7_isPlace_15 : decode cX7_isPlace 15 = .ok (.iadd, 1) := by decide +kernel
theorem dX7_isPlace_16 : decode cX7_isPlace 16 = .ok (.iaload, 1) := by decide +kernel
theorem dX7_isPlace_17 : decode cX7_isPlace 17 = .ok (.iconst 1, 1) := by decide +kernel
theorem dX7_isPlace_18 : decode cX7_isPlace 18 = .ok (.isub, 1) := by decide +kernel
theorem dX7_isPlace_19 : decode cX7_isPlace 19 = .ok (.invokestatic 44, 3) := by decide +kernel
theorem dX7_isPlace_22 : decode cX7_isPlace 22 = .ok (.ifCond .eq 7, 3) := by decide +kernel
theorem dX7_isPlace_25 : decode cX7_isPlace 25 = .ok (.iconst 1, 1) := by decide +kernel
theorem dX7_isPlace_26 : decode cX7_isPlace 26 = .ok (.goto 4, 3) := by decide +kernel
theorem dX7_isPlace_29 : decode cX7_isPlace 29 = .ok (.iconst 0, 1) := by decide +kernel
theorem dX7_isPlace_30 : decode cX7_isPlace 30 = .ok (.ireturn, 1) := by decide +kernel
theorem dX7_isHeight_0 : decode cX7_isHeight 0 = .ok (.iload_n 0, 1) := by decide +kernel
theorem dX7_isHeight_1 : decode cX7_isHeight 1 = .ok (.bipush 100, 2) := by decide +kernel
theorem dX7_isHeight_3 : decode cX7_isHeight 3 = .ok (.sipush 220, 3) := by decide +kernel
theorem dX7_isHeight_6 : decode cX7_isHeight 6 = .ok (.invokestatic 44, 3) := by decide +kernel
theorem dX7_isHeight_9 : decode cX7_isHeight 9 = .ok (.ireturn, 1) := by decide +kernel
theorem dX7_save_0 : decode cX7_save 0 = .ok (.aload_n 0, 1) := by decide +kernel
theorem dX7_save_1 : decode cX7_save 1 = .ok (.getfield 52, 3) := by decide +kernel
theorem dX7_save_4 : decode cX7_save 4 = .ok (.bipush 6, 2) := by decide +kernel
theorem dX7_save_6 : decode cX7_save 6 = .ok (.if_icmp .ne 43, 3) := by decide +kernel
theorem dX7_save_9 : decode cX7_save 9 = .ok (.iconst 0, 1) := by decide +kernel
theorem dX7_save_10 : decode cX7_save 10 = .ok (.istore_n 1, 1) := by decide +kernel
theorem dX7_save_11 : decode cX7_save 11 = .ok (.iload_n 1, 1) := by decide +kernel
theorem dX7_save_12 : decode cX7_save 12 = .ok (.sipush 405, 3) := by decide +kernel
theorem dX7_save_15 : decode cX7_save 15 = .ok (.if_icmp .ge 24, 3) := by decide +kernel
theorem dX7_save_18 : decode cX7_save 18 = .ok (.aload_n 0, 1) := by decide +kernel
theorem dX7_save_19 : decode cX7_save 19 = .ok (.getfield 13, 3) := by decide +kernel
theorem dX7_save_22 : decode cX7_save 22 = .ok (.iload_n 1, 1) := by decide +kernel
theorem dX7_save_23 : decode cX7_save 23 = .ok (.aload_n 0, 1) := by decide +kernel
theorem dX7_save_24 : decode cX7_save 24 = .ok (.getfield 13, 3) := by decide +kernel
theorem dX7_save_27 : decode cX7_save 27 = .ok (.iload_n 1, 1) := by decide +kernel
theorem dX7_save_28 : decode cX7_save 28 = .ok (.bipush 81, 2) := by decide +kernel
theorem dX7_save_30 : decode cX7_save 30 = .ok (.iadd, 1) := by decide +kernel
theorem dX7_save_31 : decode cX7_save 31 = .ok (.iaload, 1) := by decide +kernel
theorem dX7_save_32 : decode cX7_save 32 = .ok (.iastore, 1) := by decide +kernel
theorem dX7_save_33 : decode cX7_save 33 = .ok (.iinc 1 1, 3) := by decide +kernel
theorem dX7_save_36 : decode cX7_save 36 = .ok (.goto (-25), 3) := by decide +kernel
theorem dX7_save_39 : decode cX7_save 39 = .ok (.aload_n 0, 1) := by decide +kernel
theorem dX7_save_40 : decode cX7_save 40 = .ok (.dup, 1) := by decide +kernel
theorem dX7_save_41 : decode cX7_save 41 = .ok (.getfield 52, 3) := by decide +kernel
theorem dX7_save_44 : decode cX7_save 44 = .ok (.iconst 1, 1) := by decide +kernel
theorem dX7_save_45 : decode cX7_save 45 = .ok (.isub, 1) := by decide +kernel
theorem dX7_save_46 : decode cX7_save 46 = .ok (.putfield 52, 3) := by decide +kernel
theorem dX7_save_49 : decode cX7_save 49 = .ok (.iconst 0, 1) := by decide +kernel
theorem dX7_save_50 : decode cX7_save 50 = .ok (.istore_n 1, 1) := by decide +kernel
theorem dX7_save_51 : decode cX7_save 51 = .ok (.iload_n 1, 1) := by decide +kernel
theorem dX7_save_52 : decode cX7_save 52 = .ok (.bipush 81, 2) := by decide +kernel
theorem dX7_save_54 : decode cX7_save 54 = .ok (.if_icmp .ge 29, 3) := by decide +kernel
theorem dX7_save_57 : decode cX7_save 57 = .ok (.aload_n 0, 1) := by decide +kernel
theorem dX7_save_58 : decode cX7_save 58 = .ok (.getfield 13, 3) := by decide +kernel
theorem dX7_save_61 : decode cX7_save 61 = .ok (.bipush 81, 2) := by decide +kernel
theorem dX7_save_63 : decode cX7_save 63 = .ok (.aload_n 0, 1) := by decide +kernel
theorem dX7_save_64 : decode cX7_save 64 = .ok (.getfield 52, 3) := by decide +kernel
theorem dX7_save_67 : decode cX7_save 67 = .ok (.imul, 1) := by decide +kernel
theorem dX7_save_68 : decode cX7_save 68 = .ok (.iload_n 1, 1) := by decide +kernel
theorem dX7_save_69 : decode cX7_save 69 = .ok (.iadd, 1) := by decide +kernel
theorem dX7_save_70 : decode cX7_save 70 = .ok (.aload_n 0, 1) := by decide +kernel
theorem dX7_save_71 : decode cX7_save 71 = .ok (.getfield 7, 3) := by decide +kernel
theorem dX7_save_74 : decode cX7_save 74 = .ok (.iload_n 1, 1) := by decide +kernel
theorem dX7_save_75 : decode cX7_save 75 = .ok (.iaload, 1) := by decide +kernel
theorem dX7_save_76 : decode cX7_save 76 = .ok (.iastore, 1) := by decide +kernel
theorem dX7_save_77 : decode cX7_save 77 = .ok (.iinc 1 1, 3) := by decide +kernel
theorem dX7_save_80 : decode cX7_save 80 = .ok (.goto (-29), 3) := by decide +kernel
theorem dX7_save_83 : decode cX7_save 83 = .ok (.aload_n 0, 1) := by decide +kernel
theorem dX7_save_84 : decode cX7_save 84 = .ok (.dup, 1) := by decide +kernel
theorem dX7_save_85 : decode cX7_save 85 = .ok (.getfield 52, 3) := by decide +kernel
theorem dX7_save_88 : decode cX7_save 88 = .ok (.iconst 1, 1) := by decide +kernel
theorem dX7_save_89 : decode cX7_save 89 = .ok (.iadd, 1) := by decide +kernel
theorem dX7_save_90 : decode cX7_save 90 = .ok (.putfield 52, 3) := by decide +kernel
theorem dX7_save_93 : decode cX7_save 93 = .ok (.return_, 1) := by decide +kernel
theorem dX7_singers_0 : decode cX7_singers 0 = .ok (.aload_n 0, 1) := by decide +kernel
theorem dX7_singers_1 : decode cX7_singers 1 = .ok (.getfield 7, 3) := by decide +kernel
theorem dX7_singers_4 : decode cX7_singers 4 = .ok (.iconst 0, 1) := by decide +kernel
theorem dX7_singers_5 : decode cX7_singers 5 = .ok (.iaload, 1) := by decide +kernel
theorem dX7_singers_6 : decode cX7_singers 6 = .ok (.aload_n 0, 1) := by decide +kernel
theorem dX7_singers_7 : decode cX7_singers 7 = .ok (.getfield 7, 3) := by decide +kernel
theorem dX7_singers_10 : decode cX7_singers 10 = .ok (.iconst 1, 1) := by decide +kernel
theorem dX7_singers_11 : decode cX7_singers 11 = .ok (.iaload, 1) := by decide +kernel
theorem dX7_singers_12 : decode cX7_singers 12 = .ok (.iadd, 1) := by decide +kernel
theorem dX7_singers_13 : decode cX7_singers 13 = .ok (.aload_n 0, 1) := by decide +kernel
theorem dX7_singers_14 : decode cX7_singers 14 = .ok (.getfield 7, 3) := by decide +kernel
theorem dX7_singers_17 : decode cX7_singers 17 = .ok (.iconst 2, 1) := by decide +kernel
theorem dX7_singers_18 : decode cX7_singers 18 = .ok (.iaload, 1) := by decide +kernel
theorem dX7_singers_19 : decode cX7_singers 19 = .ok (.iadd, 1) := by decide +kernel
theorem dX7_singers_20 : decode cX7_singers 20 = .ok (.aload_n 0, 1) := by decide +kernel
theorem dX7_singers_21 : decode cX7_singers 21 = .ok (.getfield 7, 3) := by decide +kernel
theorem dX7_singers_24 : decode cX7_singers 24 = .ok (.iconst 3, 1) := by decide +kernel
theorem dX7_singers_25 : decode cX7_singers 25 = .ok (.iaload, 1) := by decide +kernel
theorem dX7_singers_26 : decode cX7_singers 26 = .ok (.iadd, 1) := by decide +kernel
theorem dX7_singers_27 : decode cX7_singers 27 = .ok (.ireturn, 1) := by decide +kernel
theorem dX7_undo_0 : decode cX7_undo 0 = .ok (.aload_n 0, 1) := by decide +kernel
theorem dX7_undo_1 : decode cX7_undo 1 = .ok (.iconst 0, 1) := by decide +kernel
theorem dX7_undo_2 : decode cX7_undo 2 = .ok (.putfield 40, 3) := by decide +kernel
theorem dX7_undo_5 : decode cX7_undo 5 = .ok (.aload_n 0, 1) := by decide +kernel
theorem dX7_undo_6 : decode cX7_undo 6 = .ok (.getfield 52, 3) := by decide +kernel
theorem dX7_undo_9 : decode cX7_undo 9 = .ok (.ifCond .ne 9, 3) := by decide +kernel
theorem dX7_undo_12 : decode cX7_undo 12 = .ok (.aload_n 0, 1) := by decide +kernel
theorem dX7_undo_13 : decode cX7_undo 13 = .ok (.iconst 1, 1) := by decide +kernel
theorem dX7_undo_14 : decode cX7_undo 14 = .ok (.invokevirtual 55, 3) := by decide +kernel
theorem dX7_undo_17 : decode cX7_undo 17 = .ok (.ireturn, 1) := by decide +kernel
theorem dX7_undo_18 : decode cX7_undo 18 = .ok (.aload_n 0, 1) := by decide +kernel
theorem dX7_undo_19 : decode cX7_undo 19 = .ok (.dup, 1) := by decide +kernel
theorem dX7_undo_20 : decode cX7_undo 20 = .ok (.getfield 52, 3) := by decide +kernel
theorem dX7_undo_23 : decode cX7_undo 23 = .ok (.iconst 1, 1) := by decide +kernel
theorem dX7_undo_24 : decode cX7_undo 24 = .ok (.isub, 1) := by decide +kernel
theorem dX7_undo_25 : decode cX7_undo 25 = .ok (.putfield 52, 3) := by decide +kernel
theorem dX7_undo_28 : decode cX7_undo 28 = .ok (.iconst 0, 1) := by decide +kernel
theorem dX7_undo_29 : decode cX7_undo 29 = .ok (.istore_n 1, 1) := by decide +kernel
theorem dX7_undo_30 : decode cX7_undo 30 = .ok (.iload_n 1, 1) := by decide +kernel
theorem dX7_undo_31 : decode cX7_undo 31 = .ok (.bipush 81, 2) := by decide +kernel
theorem dX7_undo_33 : decode cX7_undo 33 = .ok (.if_icmp .ge 29, 3) := by decide +kernel
theorem dX7_undo_36 : decode cX7_undo 36 = .ok (.aload_n 0, 1) := by decide +kernel
theorem dX7_undo_37 : decode cX7_undo 37 = .ok (.getfield 7, 3) := by decide +kernel
theorem dX7_undo_40 : decode cX7_undo 40 = .ok (.iload_n 1, 1) := by decide +kernel
theorem dX7_undo_41 : decode cX7_undo 41 = .ok (.aload_n 0, 1) := by decide +kernel
theorem dX7_undo_42 : decode cX7_undo 42 = .ok (.getfield 13, 3) := by decide +kernel
theorem dX7_undo_45 : decode cX7_undo 45 = .ok (.bipush 81, 2) := by decide +kernel
theorem dX7_undo_47 : decode cX7_undo 47 = .ok (.aload_n 0, 1) := by decide +kernel
theorem dX7_undo_48 : decode cX7_undo 48 = .ok (.getfield 52, 3) := by decide +kernel
theorem dX7_undo_51 : decode cX7_undo 51 = .ok (.imul, 1) := by decide +kernel
theorem dX7_undo_52 : decode cX7_undo 52 = .ok (.iload_n 1, 1) := by decide +kernel
theorem dX7_undo_53 : decode cX7_undo 53 = .ok (.iadd, 1) := by decide +kernel
theorem dX7_undo_54 : decode cX7_undo 54 = .ok (.iaload, 1) := by decide +kernel
theorem dX7_undo_55 : decode cX7_undo 55 = .ok (.iastore, 1) := by decide +kernel
theorem dX7_undo_56 : decode cX7_undo 56 = .ok (.iinc 1 1, 3) := by decide +kernel
theorem dX7_undo_59 : decode cX7_undo 59 = .ok (.goto (-29), 3) := by decide +kernel
theorem dX7_undo_62 : decode cX7_undo 62 = .ok (.aload_n 0, 1) := by decide +kernel
theorem dX7_undo_63 : decode cX7_undo 63 = .ok (.getfield 52, 3) := by decide +kernel
theorem dX7_undo_66 : decode cX7_undo 66 = .ok (.ireturn, 1) := by decide +kernel
theorem dX7_keep_0 : decode cX7_keep 0 = .ok (.aload_n 0, 1) := by decide +kernel
theorem dX7_keep_1 : decode cX7_keep 1 = .ok (.iconst 0, 1) := by decide +kernel
theorem dX7_keep_2 : decode cX7_keep 2 = .ok (.putfield 40, 3) := by decide +kernel
theorem dX7_keep_5 : decode cX7_keep 5 = .ok (.iconst 0, 1) := by decide +kernel
theorem dX7_keep_6 : decode cX7_keep 6 = .ok (.istore_n 1, 1) := by decide +kernel
theorem dX7_keep_7 : decode cX7_keep 7 = .ok (.iload_n 1, 1) := by decide +kernel
theorem dX7_keep_8 : decode cX7_keep 8 = .ok (.bipush 81, 2) := by decide +kernel
theorem dX7_keep_10 : decode cX7_keep 10 = .ok (.if_icmp .ge 21, 3) := by decide +kernel
theorem dX7_keep_13 : decode cX7_keep 13 = .ok (.aload_n 0, 1) := by decide +kernel
theorem dX7_keep_14 : decode cX7_keep 14 = .ok (.getfield 16, 3) := by decide +kernel
theorem dX7_keep_17 : decode cX7_keep 17 = .ok (.iload_n 1, 1) := by decide +kernel
theorem dX7_keep_18 : decode cX7_keep 18 = .ok (.aload_n 0, 1) := by decide +kernel
theorem dX7_keep_19 : decode cX7_keep 19 = .ok (.getfield 7, 3) := by decide +kernel
theorem dX7_keep_22 : decode cX7_keep 22 = .ok (.iload_n 1, 1) := by decide +kernel
theorem dX7_keep_23 : decode cX7_keep 23 = .ok (.iaload, 1) := by decide +kernel
theorem dX7_keep_24 : decode cX7_keep 24 = .ok (.iastore, 1) := by decide +kernel
theorem dX7_keep_25 : decode cX7_keep 25 = .ok (.iinc 1 1, 3) := by decide +kernel
theorem dX7_keep_28 : decode cX7_keep 28 = .ok (.goto (-21), 3) := by decide +kernel
theorem dX7_keep_31 : decode cX7_keep 31 = .ok (.aload_n 0, 1) := by decide +kernel
theorem dX7_keep_32 : decode cX7_keep 32 = .ok (.iconst 1, 1) := by decide +kernel
theorem dX7_keep_33 : decode cX7_keep 33 = .ok (.putfield 59, 3) := by decide +kernel
theorem dX7_keep_36 : decode cX7_keep 36 = .ok (.aload_n 0, 1) := by decide +kernel
theorem dX7_keep_37 : decode cX7_keep 37 = .ok (.invokevirtual 63, 3) := by decide +kernel
theorem dX7_keep_40 : decode cX7_keep 40 = .ok (.ireturn, 1) := by decide +kernel
theorem dX7_restore_0 : decode cX7_restore 0 = .ok (.aload_n 0, 1) := by decide +kernel
theorem dX7_restore_1 : decode cX7_restore 1 = .ok (.iconst 0, 1) := by decide +kernel
theorem dX7_restore_2 : decode cX7_restore 2 = .ok (.putfield 40, 3) := by decide +kernel
theorem dX7_restore_5 : decode cX7_restore 5 = .ok (.aload_n 0, 1) := by decide +kernel
theorem dX7_restore_6 : decode cX7_restore 6 = .ok (.getfield 59, 3) := by decide +kernel
theorem dX7_restore_9 : decode cX7_restore 9 = .ok (.ifCond .ne 9, 3) := by decide +kernel
theorem dX7_restore_12 : decode cX7_restore 12 = .ok (.aload_n 0, 1) := by decide +kernel
theorem dX7_restore_13 : decode cX7_restore 13 = .ok (.iconst 1, 1) := by decide +kernel
theorem dX7_restore_14 : decode cX7_restore 14 = .ok (.invokevirtual 55, 3) := by decide +kernel
theorem dX7_restore_17 : decode cX7_restore 17 = .ok (.ireturn, 1) := by decide +kernel
theorem dX7_restore_18 : decode cX7_restore 18 = .ok (.aload_n 0, 1) := by decide +kernel
theorem dX7_restore_19 : decode cX7_restore 19 = .ok (.invokevirtual 67, 3) := by decide +kernel
theorem dX7_restore_22 : decode cX7_restore 22 = .ok (.iconst 0, 1) := by decide +kernel
theorem dX7_restore_23 : decode cX7_restore 23 = .ok (.istore_n 1, 1) := by decide +kernel
theorem dX7_restore_24 : decode cX7_restore 24 = .ok (.iload_n 1, 1) := by decide +kernel
theorem dX7_restore_25 : decode cX7_restore 25 = .ok (.bipush 81, 2) := by decide +kernel
theorem dX7_restore_27 : decode cX7_restore 27 = .ok (.if_icmp .ge 21, 3) := by decide +kernel
theorem dX7_restore_30 : decode cX7_restore 30 = .ok (.aload_n 0, 1) := by decide +kernel
theorem dX7_restore_31 : decode cX7_restore 31 = .ok (.getfield 7, 3) := by decide +kernel
theorem dX7_restore_34 : decode cX7_restore 34 = .ok (.iload_n 1, 1) := by decide +kernel
theorem dX7_restore_35 : decode cX7_restore 35 = .ok (.aload_n 0, 1) := by decide +kernel
theorem dX7_restore_36 : decode cX7_restore 36 = .ok (.getfield 16, 3) := by decide +kernel
theorem dX7_restore_39 : decode cX7_restore 39 = .ok (.iload_n 1, 1) := by decide +kernel
theorem dX7_restore_40 : decode cX7_restore 40 = .ok (.iaload, 1) := by decide +kernel
theorem dX7_restore_41 : decode cX7_restore 41 = .ok (.iastore, 1) := by decide +kernel
theorem dX7_restore_42 : decode cX7_restore 42 = .ok (.iinc 1 1, 3) := by decide +kernel
theorem dX7_restore_45 : decode cX7_restore 45 = .ok (.goto (-21), 3) := by decide +kernel
theorem dX7_restore_48 : decode cX7_restore 48 = .ok (.aload_n 0, 1) := by decide +kernel
theorem dX7_restore_49 : decode cX7_restore 49 = .ok (.invokevirtual 63, 3) := by decide +kernel
theorem dX7_restore_52 : decode cX7_restore 52 = .ok (.ireturn, 1) := by decide +kernel
theorem dX7_heightAt_0 : decode cX7_heightAt 0 = .ok (.aload_n 0, 1) := by decide +kernel
theorem dX7_heightAt_1 : decode cX7_heightAt 1 = .ok (.getfield 7, 3) := by decide +kernel
theorem dX7_heightAt_4 : decode cX7_heightAt 4 = .ok (.bipush 28, 2) := by decide +kernel
theorem dX7_heightAt_6 : decode cX7_heightAt 6 = .ok (.bipush 6, 2) := by decide +kernel
theorem dX7_heightAt_8 : decode cX7_heightAt 8 = .ok (.iload_n 1, 1) := by decide +kernel
theorem dX7_heightAt_9 : decode cX7_heightAt 9 = .ok (.imul, 1) := by decide +kernel
theorem dX7_heightAt_10 : decode cX7_heightAt 10 = .ok (.iadd, 1) := by decide +kernel
theorem dX7_heightAt_11 : decode cX7_heightAt 11 = .ok (.iload_n 2, 1) := by decide +kernel
theorem dX7_heightAt_12 : decode cX7_heightAt 12 = .ok (.iadd, 1) := by decide +kernel
theorem dX7_heightAt_13 : decode cX7_heightAt 13 = .ok (.iaload, 1) := by decide +kernel
theorem dX7_heightAt_14 : decode cX7_heightAt 14 = .ok (.ireturn, 1) := by decide +kernel
theorem dX7_hearsBehind_0 : decode cX7_hearsBehind 0 = .ok (.aload_n 0, 1) := by decide +kernel
theorem dX7_hearsBehind_1 : decode cX7_hearsBehind 1 = .ok (.getfield 7, 3) := by decide +kernel
theorem dX7_hearsBehind_4 : decode cX7_hearsBehind 4 = .ok (.bipush 77, 2) := by decide +kernel
theorem dX7_hearsBehind_6 : decode cX7_hearsBehind 6 = .ok (.iaload, 1) := by decide +kernel
theorem dX7_hearsBehind_7 : decode cX7_hearsBehind 7 = .ok (.iconst 1, 1) := by decide +kernel
theorem dX7_hearsBehind_8 : decode cX7_hearsBehind 8 = .ok (.if_icmp .ne 12, 3) := by decide +kernel
theorem dX7_hearsBehind_11 : decode cX7_hearsBehind 11 = .ok (.iload_n 1, 1) := by decide +kernel
theorem dX7_hearsBehind_12 : decode cX7_hearsBehind 12 = .ok (.iconst 3, 1) := by decide +kernel
theorem dX7_hearsBehind_13 : decode cX7_hearsBehind 13 = .ok (.if_icmp .ge 7, 3) := by decide +kernel
theorem dX7_hearsBehind_16 : decode cX7_hearsBehind 16 = .ok (.iconst 1, 1) := by decide +kernel
theorem dX7_hearsBehind_17 : decode cX7_hearsBehind 17 = .ok (.goto 4, 3) := by decide +kernel
theorem dX7_hearsBehind_20 : decode cX7_hearsBehind 20 = .ok (.iconst 0, 1) := by decide +kernel
theorem dX7_hearsBehind_21 : decode cX7_hearsBehind 21 = .ok (.ireturn, 1) := by decide +kernel
theorem dX7_hears_0 : decode cX7_hears 0 = .ok (.iload 4, 2) := by decide +kernel
theorem dX7_hears_2 : decode cX7_hears 2 = .ok (.iload_n 2, 1) := by decide +kernel
theorem dX7_hears_3 : decode cX7_hears 3 = .ok (.aload_n 0, 1) := by decide +kernel
theorem dX7_hears_4 : decode cX7_hears 4 = .ok (.getfield 7, 3) := by decide +kernel
theorem dX7_hears_7 : decode cX7_hears 7 = .ok (.bipush 76, 2) := by decide +kernel
theorem dX7_hears_9 : decode cX7_hears 9 = .ok (.iaload, 1) := by decide +kernel
theorem dX7_hears_10 : decode cX7_hears 10 = .ok (.isub, 1) := by decide +kernel
theorem dX7_hears_11 : decode cX7_hears 11 = .ok (.if_icmp .lt 7, 3) := by decide +kernel
theorem dX7_hears_14 : decode cX7_hears 14 = .ok (.iconst 1, 1) := by decide +kernel
theorem dX7_hears_15 : decode cX7_hears 15 = .ok (.goto 4, 3) := by decide +kernel
theorem dX7_hears_18 : decode cX7_hears 18 = .ok (.iconst 0, 1) := by decide +kernel
theorem dX7_hears_19 : decode cX7_hears 19 = .ok (.istore 5, 2) := by decide +kernel
theorem dX7_hears_21 : decode cX7_hears 21 = .ok (.iload 5, 2) := by decide +kernel
theorem dX7_hears_23 : decode cX7_hears 23 = .ok (.ifCond .eq 39, 3) := by decide +kernel
theorem dX7_hears_26 : decode cX7_hears 26 = .ok (.iload_n 3, 1) := by decide +kernel
theorem dX7_hears_27 : decode cX7_hears 27 = .ok (.iload_n 1, 1) := by decide +kernel
theorem dX7_hears_28 : decode cX7_hears 28 = .ok (.if_icmp .ne 9, 3) := by decide +kernel
theorem dX7_hears_31 : decode cX7_hears 31 = .ok (.iload 4, 2) := by decide +kernel
theorem dX7_hears_33 : decode cX7_hears 33 = .ok (.iload_n 2, 1) := by decide +kernel
theorem dX7_hears_34 : decode cX7_hears 34 = .ok (.if_icmp .lt 24, 3) := by decide +kernel
theorem dX7_hears_37 : decode cX7_hears 37 = .ok (.aload_n 0, 1) := by decide +kernel
theorem dX7_hears_38 : decode cX7_hears 38 = .ok (.iload_n 1, 1) := by decide +kernel
theorem dX7_hears_39 : decode cX7_hears 39 = .ok (.invokevirtual 70, 3) := by decide +kernel
theorem dX7_hears_42 : decode cX7_hears 42 = .ok (.ifCond .eq 20, 3) := by decide +kernel
theorem dX7_hears_45 : decode cX7_hears 45 = .ok (.iload_n 3, 1) := by decide +kernel
theorem dX7_hears_46 : decode cX7_hears 46 = .ok (.iload_n 1, 1) := by decide +kernel
theorem dX7_hears_47 : decode cX7_hears 47 = .ok (.iconst 1, 1) := by decide +kernel
theorem dX7_hears_48 : decode cX7_hears 48 = .ok (.iadd, 1) := by decide +kernel
theorem dX7_hears_49 : decode cX7_hears 49 = .ok (.if_icmp .ne 13, 3) := by decide +kernel
theorem dX7_hears_52 : decode cX7_hears 52 = .ok (.iload 4, 2) := by decide +kernel
theorem dX7_hears_54 : decode cX7_hears 54 = .ok (.iload_n 2, 1) := by decide +kernel
theorem dX7_hears_55 : decode cX7_hears 55 = .ok (.if_icmp .gt 7, 3) := by decide +kernel
theorem dX7_hears_58 : decode cX7_hears 58 = .ok (.iconst 1, 1) := by decide +kernel
theorem dX7_hears_59 : decode cX7_hears 59 = .ok (.goto 4, 3) := by decide +kernel
theorem dX7_hears_62 : decode cX7_hears 62 = .ok (.iconst 0, 1) := by decide +kernel
theorem dX7_hears_63 : decode cX7_hears 63 = .ok (.ireturn, 1) := by decide +kernel
theorem dX7_heard_0 : decode cX7_heard 0 = .ok (.iconst 0, 1) := by decide +kernel
theorem dX7_heard_1 : decode cX7_heard 1 = .ok (.istore_n 3, 1) := by decide +kernel
theorem dX7_heard_2 : decode cX7_heard 2 = .ok (.iconst 0, 1) := by decide +kernel
theorem dX7_heard_3 : decode cX7_heard 3 = .ok (.istore 4, 2) := by decide +kernel
theorem dX7_heard_5 : decode cX7_heard 5 = .ok (.iload 4, 2) := by decide +kernel
theorem dX7_heard_7 : decode cX7_heard 7 = .ok (.iconst 4, 1) := by decide +kernel
theorem dX7_heard_8 : decode cX7_heard 8 = .ok (.if_icmp .ge 53, 3) := by decide +kernel
theorem dX7_heard_11 : decode cX7_heard 11 = .ok (.iconst 0, 1) := by decide +kernel
theorem dX7_heard_12 : decode cX7_heard 12 = .ok (.istore 5, 2) := by decide +kernel
theorem dX7_heard_14 : decode cX7_heard 14 = .ok (.iload 5, 2) := by decide +kernel
theorem dX7_heard_16 : decode cX7_heard 16 = .ok (.aload_n 0, 1) := by decide +kernel
theorem dX7_heard_17 : decode cX7_heard 17 = .ok (.getfield 7, 3) := by decide +kernel
theorem dX7_heard_20 : decode cX7_heard 20 = .ok (.iconst 0, 1) := by decide +kernel
theorem dX7_heard_21 : decode cX7_heard 21 = .ok (.iload 4, 2) := by decide +kernel
theorem dX7_heard_23 : decode cX7_heard 23 = .ok (.iadd, 1) := by decide +kernel
theorem dX7_heard_24 : decode cX7_heard 24 = .ok (.iaload, 1) := by decide +kernel
theorem dX7_heard_25 : decode cX7_heard 25 = .ok (.if_icmp .ge 30, 3) := by decide +kernel
theorem dX7_heard_28 : decode cX7_heard 28 = .ok (.iload_n 3, 1) := by decide +kernel
theorem dX7_heard_29 : decode cX7_heard 29 = .ok (.aload_n 0, 1) := by decide +kernel
theorem dX7_heard_30 : decode cX7_heard 30 = .ok (.iload_n 1, 1) := by decide +kernel
theorem dX7_heard_31 : decode cX7_heard 31 = .ok (.iload_n 2, 1) := by decide +kernel
theorem dX7_heard_32 : decode cX7_heard 32 = .ok (.iload 4, 2) := by decide +kernel
theorem dX7_heard_34 : decode cX7_heard 34 = .ok (.iload 5, 2) := by decide +kernel
theorem dX7_heard_36 : decode cX7_heard 36 = .ok (.invokevirtual 73, 3) := by decide +kernel
theorem dX7_heard_39 : decode cX7_heard 39 = .ok (.ifCond .eq 7, 3) := by decide +kernel
theorem dX7_heard_42 : decode cX7_heard 42 = .ok (.iconst 1, 1) := by decide +kernel
theorem dX7_heard_43 : decode cX7_heard 43 = .ok (.goto 4, 3) := by decide +kernel
theorem dX7_heard_46 : decode cX7_heard 46 = .ok (.iconst 0, 1) := by decide +kernel
theorem dX7_heard_47 : decode cX7_heard 47 = .ok (.iadd, 1) := by decide +kernel
theorem dX7_heard_48 : decode cX7_heard 48 = .ok (.istore_n 3, 1) := by decide +kernel
theorem dX7_heard_49 : decode cX7_heard 49 = .ok (.iinc 5 1, 3) := by decide +kernel
theorem dX7_heard_52 : decode cX7_heard 52 = .ok (.goto (-38), 3) := by decide +kernel
theorem dX7_heard_55 : decode cX7_heard 55 = .ok (.iinc 4 1, 3) := by decide +kernel
theorem dX7_heard_58 : decode cX7_heard 58 = .ok (.goto (-53), 3) := by decide +kernel
theorem dX7_heard_61 : decode cX7_heard 61 = .ok (.iload_n 3, 1) := by decide +kernel
theorem dX7_heard_62 : decode cX7_heard 62 = .ok (.ireturn, 1) := by decide +kernel
theorem dX7_hearers_0 : decode cX7_hearers 0 = .ok (.iconst 0, 1) := by decide +kernel
theorem dX7_hearers_1 : decode cX7_hearers 1 = .ok (.istore_n 3, 1) := by decide +kernel
theorem dX7_hearers_2 : decode cX7_hearers 2 = .ok (.iconst 0, 1) := by decide +kernel
theorem dX7_hearers_3 : decode cX7_hearers 3 = .ok (.istore 4, 2) := by decide +kernel
theorem dX7_hearers_5 : decode cX7_hearers 5 = .ok (.iload 4, 2) := by decide +kernel
theorem dX7_hearers_7 : decode cX7_hearers 7 = .ok (.iconst 4, 1) := by decide +kernel
theorem dX7_hearers_8 : decode cX7_hearers 8 = .ok (.if_icmp .ge 53, 3) := by decide +kernel
theorem dX7_hearers_11 : decode cX7_hearers 11 = .ok (.iconst 0, 1) := by decide +kernel
theorem dX7_hearers_12 : decode cX7_hearers 12 = .ok (.istore 5, 2) := by decide +kernel
theorem dX7_hearers_14 : decode cX7_hearers 14 = .ok (.iload 5, 2) := by decide +kernel
theorem dX7_hearers_16 : decode cX7_hearers 16 = .ok (.aload_n 0, 1) := by decide +kernel
theorem dX7_hearers_17 : decode cX7_hearers 17 = .ok (.getfield 7, 3) := by decide +kernel
theorem dX7_hearers_20 : decode cX7_hearers 20 = .ok (.iconst 0, 1) := by decide +kernel
theorem dX7_hearers_21 : decode cX7_hearers 21 = .ok (.iload 4, 2) := by decide +kernel
theorem dX7_hearers_23 : decode cX7_hearers 23 = .ok (.iadd, 1) := by decide +kernel
theorem dX7_hearers_24 : decode cX7_hearers 24 = .ok (.iaload, 1) := by decide +kernel
theorem dX7_hearers_25 : decode cX7_hearers 25 = .ok (.if_icmp .ge 30, 3) := by decide +kernel
theorem dX7_hearers_28 : decode cX7_hearers 28 = .ok (.iload_n 3, 1) := by decide +kernel
theorem dX7_hearers_29 : decode cX7_hearers 29 = .ok (.aload_n 0, 1) := by decide +kernel
theorem dX7_hearers_30 : decode cX7_hearers 30 = .ok (.iload 4, 2) := by decide +kernel
theorem dX7_hearers_32 : decode cX7_hearers 32 = .ok (.iload 5, 2) := by decide +kernel
theorem dX7_hearers_34 : decode cX7_hearers 34 = .ok (.iload_n 1, 1) := by decide +kernel
theorem dX7_hearers_35 : decode cX7_hearers 35 = .ok (.iload_n 2, 1) := by decide +kernel
theorem dX7_hearers_36 : decode cX7_hearers 36 = .ok (.invokevirtual 73, 3) := by decide +kernel
theorem dX7_hearers_39 : decode cX7_hearers 39 = .ok (.ifCond .eq 7, 3) := by decide +kernel
theorem dX7_hearers_42 : decode cX7_hearers 42 = .ok (.iconst 1, 1) := by decide +kernel
theorem dX7_hearers_43 : decode cX7_hearers 43 = .ok (.goto 4, 3) := by decide +kernel
theorem dX7_hearers_46 : decode cX7_hearers 46 = .ok (.iconst 0, 1) := by decide +kernel
theorem dX7_hearers_47 : decode cX7_hearers 47 = .ok (.iadd, 1) := by decide +kernel
theorem dX7_hearers_48 : decode cX7_hearers 48 = .ok (.istore_n 3, 1) := by decide +kernel
theorem dX7_hearers_49 : decode cX7_hearers 49 = .ok (.iinc 5 1, 3) := by decide +kernel
theorem dX7_hearers_52 : decode cX7_hearers 52 = .ok (.goto (-38), 3) := by decide +kernel
theorem dX7_hearers_55 : decode cX7_hearers 55 = .ok (.iinc 4 1, 3) := by decide +kernel
theorem dX7_hearers_58 : decode cX7_hearers 58 = .ok (.goto (-53), 3) := by decide +kernel
theorem dX7_hearers_61 : decode cX7_hearers 61 = .ok (.iload_n 3, 1) := by decide +kernel
theorem dX7_hearers_62 : decode cX7_hearers 62 = .ok (.ireturn, 1) := by decide +kernel
theorem dX7_higher_0 : decode cX7_higher 0 = .ok (.iconst 0, 1) := by decide +kernel
theorem dX7_higher_1 : decode cX7_higher 1 = .ok (.istore_n 3, 1) := by decide +kernel
theorem dX7_higher_2 : decode cX7_higher 2 = .ok (.iconst 0, 1) := by decide +kernel
theorem dX7_higher_3 : decode cX7_higher 3 = .ok (.istore 4, 2) := by decide +kernel
theorem dX7_higher_5 : decode cX7_higher 5 = .ok (.iload 4, 2) := by decide +kernel
theorem dX7_higher_7 : decode cX7_higher 7 = .ok (.iconst 4, 1) := by decide +kernel
theorem dX7_higher_8 : decode cX7_higher 8 = .ok (.if_icmp .ge 70, 3) := by decide +kernel
theorem dX7_higher_11 : decode cX7_higher 11 = .ok (.iconst 0, 1) := by decide +kernel
theorem dX7_higher_12 : decode cX7_higher 12 = .ok (.istore 5, 2) := by decide +kernel
theorem dX7_higher_14 : decode cX7_higher 14 = .ok (.iload 5, 2) := by decide +kernel
theorem dX7_higher_16 : decode cX7_higher 16 = .ok (.aload_n 0, 1) := by decide +kernel
theorem dX7_higher_17 : decode cX7_higher 17 = .ok (.getfield 7, 3) := by decide +kernel
theorem dX7_higher_20 : decode cX7_higher 20 = .ok (.iconst 0, 1) := by decide +kernel
theorem dX7_higher_21 : decode cX7_higher 21 = .ok (.iload 4, 2) := by decide +kernel
theorem dX7_higher_23 : decode cX7_higher 23 = .ok (.iadd, 1) := by decide +kernel
theorem dX7_higher_24 : decode cX7_higher 24 = .ok (.iaload, 1) := by decide +kernel
theorem dX7_higher_25 : decode cX7_higher 25 = .ok (.if_icmp .ge 47, 3) := by decide +kernel
theorem dX7_higher_28 : decode cX7_higher 28 = .ok (.iload_n 3, 1) := by decide +kernel
theorem dX7_higher_29 : decode cX7_higher 29 = .ok (.aload_n 0, 1) := by decide +kernel
theorem dX7_higher_30 : decode cX7_higher 30 = .ok (.iload_n 1, 1) := by decide +kernel
theorem dX7_higher_31 : decode cX7_higher 31 = .ok (.iload_n 2, 1) := by decide +kernel
theorem dX7_higher_32 : decode cX7_higher 32 = .ok (.iload 4, 2) := by decide +kernel
theorem dX7_higher_34 : decode cX7_higher 34 = .ok (.iload 5, 2) := by decide +kernel
theorem dX7_higher_36 : decode cX7_higher 36 = .ok (.invokevirtual 73, 3) := by decide +kernel
theorem dX7_higher_39 : decode cX7_higher 39 = .ok (.ifCond .eq 24, 3) := by decide +kernel
theorem dX7_higher_42 : decode cX7_higher 42 = .ok (.aload_n 0, 1) := by decide +kernel
theorem dX7_higher_43 : decode cX7_higher 43 = .ok (.iload 4, 2) := by decide +kernel
theorem dX7_higher_45 : decode cX7_higher 45 = .ok (.iload 5, 2) := by decide +kernel
theorem dX7_higher_47 : decode cX7_higher 47 = .ok (.invokevirtual 77, 3) := by decide +kernel
theorem dX7_higher_50 : decode cX7_higher 50 = .ok (.aload_n 0, 1) := by decide +kernel
theorem dX7_higher_51 : decode cX7_higher 51 = .ok (.iload_n 1, 1) := by decide +kernel
theorem dX7_higher_52 : decode cX7_higher 52 = .ok (.iload_n 2, 1) := by decide +kernel
theorem dX7_higher_53 : decode cX7_higher 53 = .ok (.invokevirtual 77, 3) := by decide +kernel
theorem dX7_higher_56 : decode cX7_higher 56 = .ok (.if_icmp .le 7, 3) := by decide +kernel
theorem dX7_higher_59 : decode cX7_higher 59 = .ok (.iconst 1, 1) := by decide +kernel
theorem dX7_higher_60 : decode cX7_higher 60 = .ok (.goto 4, 3) := by decide +kernel
theorem dX7_higher_63 : decode cX7_higher 63 = .ok (.iconst 0, 1) := by decide +kernel
theorem dX7_higher_64 : decode cX7_higher 64 = .ok (.iadd, 1) := by decide +kernel
theorem dX7_higher_65 : decode cX7_higher 65 = .ok (.istore_n 3, 1) := by decide +kernel
theorem dX7_higher_66 : decode cX7_higher 66 = .ok (.iinc 5 1, 3) := by decide +kernel
theorem dX7_higher_69 : decode cX7_higher 69 = .ok (.goto (-55), 3) := by decide +kernel
theorem dX7_higher_72 : decode cX7_higher 72 = .ok (.iinc 4 1, 3) := by decide +kernel
theorem dX7_higher_75 : decode cX7_higher 75 = .ok (.goto (-70), 3) := by decide +kernel
theorem dX7_higher_78 : decode cX7_higher 78 = .ok (.iload_n 3, 1) := by decide +kernel
theorem dX7_higher_79 : decode cX7_higher 79 = .ok (.ireturn, 1) := by decide +kernel
theorem dX7_oddIn_0 : decode cX7_oddIn 0 = .ok (.iconst 0, 1) := by decide +kernel
theorem dX7_oddIn_1 : decode cX7_oddIn 1 = .ok (.istore_n 2, 1) := by decide +kernel
theorem dX7_oddIn_2 : decode cX7_oddIn 2 = .ok (.iconst 0, 1) := by decide +kernel
theorem dX7_oddIn_3 : decode cX7_oddIn 3 = .ok (.istore_n 3, 1) := by decide +kernel
theorem dX7_oddIn_4 : decode cX7_oddIn 4 = .ok (.iload_n 3, 1) := by decide +kernel
theorem dX7_oddIn_5 : decode cX7_oddIn 5 = .ok (.aload_n 0, 1) := by decide +kernel
theorem dX7_oddIn_6 : decode cX7_oddIn 6 = .ok (.getfield 7, 3) := by decide +kernel
theorem dX7_oddIn_9 : decode cX7_oddIn 9 = .ok (.iconst 0, 1) := by decide +kernel
theorem dX7_oddIn_10 : decode cX7_oddIn 10 = .ok (.iload_n 1, 1) := by decide +kernel
theorem dX7_oddIn_11 : decode cX7_oddIn 11 = .ok (.iadd, 1) := by decide +kernel
theorem dX7_oddIn_12 : decode cX7_oddIn 12 = .ok (.iaload, 1) := by decide +kernel
theorem dX7_oddIn_13 : decode cX7_oddIn 13 = .ok (.if_icmp .ge 20, 3) := by decide +kernel
theorem dX7_oddIn_16 : decode cX7_oddIn 16 = .ok (.iload_n 2, 1) := by decide +kernel
theorem dX7_oddIn_17 : decode cX7_oddIn 17 = .ok (.aload_n 0, 1) := by decide +kernel
theorem dX7_oddIn_18 : decode cX7_oddIn 18 = .ok (.iload_n 1, 1) := by decide +kernel
theorem dX7_oddIn_19 : decode cX7_oddIn 19 = .ok (.iload_n 3, 1) := by decide +kernel
theorem dX7_oddIn_20 : decode cX7_oddIn 20 = .ok (.invokevirtual 81, 3) := by decide +kernel
theorem dX7_oddIn_23 : decode cX7_oddIn 23 = .ok (.iconst 2, 1) := by decide +kernel
theorem dX7_oddIn_24 : decode cX7_oddIn 24 = .ok (.irem, 1) := by decide +kernel
theorem dX7_oddIn_25 : decode cX7_oddIn 25 = .ok (.iadd, 1) := by decide +kernel
theorem dX7_oddIn_26 : decode cX7_oddIn 26 = .ok (.istore_n 2, 1) := by decide +kernel
theorem dX7_oddIn_27 : decode cX7_oddIn 27 = .ok (.iinc 3 1, 3) := by decide +kernel
theorem dX7_oddIn_30 : decode cX7_oddIn 30 = .ok (.goto (-26), 3) := by decide +kernel
theorem dX7_oddIn_33 : decode cX7_oddIn 33 = .ok (.iload_n 2, 1) := by decide +kernel
theorem dX7_oddIn_34 : decode cX7_oddIn 34 = .ok (.ireturn, 1) := by decide +kernel
theorem dX7_odd_0 : decode cX7_odd 0 = .ok (.aload_n 0, 1) := by decide +kernel
theorem dX7_odd_1 : decode cX7_odd 1 = .ok (.iconst 0, 1) := by decide +kernel
theorem dX7_odd_2 : decode cX7_odd 2 = .ok (.invokevirtual 84, 3) := by decide +kernel
theorem dX7_odd_5 : decode cX7_odd 5 = .ok (.aload_n 0, 1) := by decide +kernel
theorem dX7_odd_6 : decode cX7_odd 6 = .ok (.iconst 1, 1) := by decide +kernel
theorem dX7_odd_7 : decode cX7_odd 7 = .ok (.invokevirtual 84, 3) := by decide +kernel
theorem dX7_odd_10 : decode cX7_odd 10 = .ok (.iadd, 1) := by decide +kernel
theorem dX7_odd_11 : decode cX7_odd 11 = .ok (.aload_n 0, 1) := by decide +kernel
theorem dX7_odd_12 : decode cX7_odd 12 = .ok (.iconst 2, 1) := by decide +kernel
theorem dX7_odd_13 : decode cX7_odd 13 = .ok (.invokevirtual 84, 3) := by decide +kernel
theorem dX7_odd_16 : decode cX7_odd 16 = .ok (.iadd, 1) := by decide +kernel
theorem dX7_odd_17 : decode cX7_odd 17 = .ok (.aload_n 0, 1) := by decide +kernel
theorem dX7_odd_18 : decode cX7_odd 18 = .ok (.iconst 3, 1) := by decide +kernel
theorem dX7_odd_19 : decode cX7_odd 19 = .ok (.invokevirtual 84, 3) := by decide +kernel
theorem dX7_odd_22 : decode cX7_odd 22 = .ok (.iadd, 1) := by decide +kernel
theorem dX7_odd_23 : decode cX7_odd 23 = .ok (.ireturn, 1) := by decide +kernel
theorem dX7_discord_0 : decode cX7_discord 0 = .ok (.iconst 0, 1) := by decide +kernel
theorem dX7_discord_1 : decode cX7_discord 1 = .ok (.istore_n 2, 1) := by decide +kernel
theorem dX7_discord_2 : decode cX7_discord 2 = .ok (.iconst 0, 1) := by decide +kernel
theorem dX7_discord_3 : decode cX7_discord 3 = .ok (.istore_n 3, 1) := by decide +kernel
theorem dX7_discord_4 : decode cX7_discord 4 = .ok (.iload_n 3, 1) := by decide +kernel
theorem dX7_discord_5 : decode cX7_discord 5 = .ok (.aload_n 0, 1) := by decide +kernel
theorem dX7_discord_6 : decode cX7_discord 6 = .ok (.getfield 7, 3) := by decide +kernel
theorem dX7_discord_9 : decode cX7_discord 9 = .ok (.iconst 0, 1) := by decide +kernel
theorem dX7_discord_10 : decode cX7_discord 10 = .ok (.iload_n 1, 1) := by decide +kernel
theorem dX7_discord_11 : decode cX7_discord 11 = .ok (.iadd, 1) := by decide +kernel
theorem dX7_discord_12 : decode cX7_discord 12 = .ok (.iaload, 1) := by decide +kernel
theorem dX7_discord_13 : decode cX7_discord 13 = .ok (.if_icmp .ge 48, 3) := by decide +kernel
theorem dX7_discord_16 : decode cX7_discord 16 = .ok (.iconst 0, 1) := by decide +kernel
theorem dX7_discord_17 : decode cX7_discord 17 = .ok (.istore 4, 2) := by decide +kernel
theorem dX7_discord_19 : decode cX7_discord 19 = .ok (.iload 4, 2) := by decide +kernel
theorem dX7_discord_21 : decode cX7_discord 21 = .ok (.iload_n 3, 1) := by decide +kernel
theorem dX7_discord_22 : decode cX7_discord 22 = .ok (.if_icmp .ge 33, 3) := by decide +kernel
theorem dX7_discord_25 : decode cX7_discord 25 = .ok (.iload_n 2, 1) := by decide +kernel
theorem dX7_discord_26 : decode cX7_discord 26 = .ok (.aload_n 0, 1) := by decide +kernel
theorem dX7_discord_27 : decode cX7_discord 27 = .ok (.iload_n 1, 1) := by decide +kernel
theorem dX7_discord_28 : decode cX7_discord 28 = .ok (.iload 4, 2) := by decide +kernel
theorem dX7_discord_30 : decode cX7_discord 30 = .ok (.invokevirtual 77, 3) := by decide +kernel
theorem dX7_discord_33 : decode cX7_discord 33 = .ok (.aload_n 0, 1) := by decide +kernel
theorem dX7_discord_34 : decode cX7_discord 34 = .ok (.iload_n 1, 1) := by decide +kernel
theorem dX7_discord_35 : decode cX7_discord 35 = .ok (.iload_n 3, 1) := by decide +kernel
theorem dX7_discord_36 : decode cX7_discord 36 = .ok (.invokevirtual 77, 3) := by decide +kernel
theorem dX7_discord_39 : decode cX7_discord 39 = .ok (.if_icmp .le 7, 3) := by decide +kernel
theorem dX7_discord_42 : decode cX7_discord 42 = .ok (.iconst 1, 1) := by decide +kernel
theorem dX7_discord_43 : decode cX7_discord 43 = .ok (.goto 4, 3) := by decide +kernel
theorem dX7_discord_46 : decode cX7_discord 46 = .ok (.iconst 0, 1) := by decide +kernel
theorem dX7_discord_47 : decode cX7_discord 47 = .ok (.iadd, 1) := by decide +kernel
theorem dX7_discord_48 : decode cX7_discord 48 = .ok (.istore_n 2, 1) := by decide +kernel
theorem dX7_discord_49 : decode cX7_discord 49 = .ok (.iinc 4 1, 3) := by decide +kernel
theorem dX7_discord_52 : decode cX7_discord 52 = .ok (.goto (-33), 3) := by decide +kernel
theorem dX7_discord_55 : decode cX7_discord 55 = .ok (.iinc 3 1, 3) := by decide +kernel
theorem dX7_discord_58 : decode cX7_discord 58 = .ok (.goto (-54), 3) := by decide +kernel
theorem dX7_discord_61 : decode cX7_discord 61 = .ok (.iload_n 2, 1) := by decide +kernel
theorem dX7_discord_62 : decode cX7_discord 62 = .ok (.ireturn, 1) := by decide +kernel
theorem dX7_nextOrder_0 : decode cX7_nextOrder 0 = .ok (.iload_n 1, 1) := by decide +kernel
theorem dX7_nextOrder_1 : decode cX7_nextOrder 1 = .ok (.iconst 2, 1) := by decide +kernel
theorem dX7_nextOrder_2 : decode cX7_nextOrder 2 = .ok (.isub, 1) := by decide +kernel
theorem dX7_nextOrder_3 : decode cX7_nextOrder 3 = .ok (.istore_n 2, 1) := by decide +kernel
theorem dX7_nextOrder_4 : decode cX7_nextOrder 4 = .ok (.iload_n 2, 1) := by decide +kernel
theorem dX7_nextOrder_5 : decode cX7_nextOrder 5 = .ok (.ifCond .lt 26, 3) := by decide +kernel
theorem dX7_nextOrder_8 : decode cX7_nextOrder 8 = .ok (.aload_n 0, 1) := by decide +kernel
theorem dX7_nextOrder_9 : decode cX7_nextOrder 9 = .ok (.getfield 19, 3) := by decide +kernel
theorem dX7_nextOrder_12 : decode cX7_nextOrder 12 = .ok (.iload_n 2, 1) := by decide +kernel
theorem dX7_nextOrder_13 : decode cX7_nextOrder 13 = .ok (.iaload, 1) := by decide +kernel
theorem dX7_nextOrder_14 : decode cX7_nextOrder 14 = .ok (.aload_n 0, 1) := by decide +kernel
theorem dX7_nextOrder_15 : decode cX7_nextOrder 15 = .ok (.getfield 19, 3) := by decide +kernel
theorem dX7_nextOrder_18 : decode cX7_nextOrder 18 = .ok (.iload_n 2, 1) := by decide +kernel
theorem dX7_nextOrder_19 : decode cX7_nextOrder 19 = .ok (.iconst 1, 1) := by decide +kernel
theorem dX7_nextOrder_20 : decode cX7_nextOrder 20 = .ok (.iadd, 1) := by decide +kernel
theorem dX7_nextOrder_21 : decode cX7_nextOrder 21 = .ok (.iaload, 1) := by decide +kernel
theorem dX7_nextOrder_22 : decode cX7_nextOrder 22 = .ok (.if_icmp .le 9, 3) := by decide +kernel
theorem dX7_nextOrder_25 : decode cX7_nextOrder 25 = .ok (.iinc 2 (-1), 3) := by decide +kernel
theorem dX7_nextOrder_28 : decode cX7_nextOrder 28 = .ok (.goto (-24), 3) := by decide +kernel
theorem dX7_nextOrder_31 : decode cX7_nextOrder 31 = .ok (.iload_n 2, 1) := by decide +kernel
theorem dX7_nextOrder_32 : decode cX7_nextOrder 32 = .ok (.ifCond .ge 5, 3) := by decide +kernel
theorem dX7_nextOrder_35 : decode cX7_nextOrder 35 = .ok (.iconst 0, 1) := by decide +kernel
theorem dX7_nextOrder_36 : decode cX7_nextOrder 36 = .ok (.ireturn, 1) := by decide +kernel
theorem dX7_nextOrder_37 : decode cX7_nextOrder 37 = .ok (.iload_n 1, 1) := by decide +kernel
theorem dX7_nextOrder_38 : decode cX7_nextOrder 38 = .ok (.iconst 1, 1) := by decide +kernel
theorem dX7_nextOrder_39 : decode cX7_nextOrder 39 = .ok (.isub, 1) := by decide +kernel
theorem dX7_nextOrder_40 : decode cX7_nextOrder 40 = .ok (.istore_n 3, 1) := by decide +kernel
theorem dX7_nextOrder_41 : decode cX7_nextOrder 41 = .ok (.aload_n 0, 1) := by decide +kernel
theorem dX7_nextOrder_42 : decode cX7_nextOrder 42 = .ok (.getfield 19, 3) := by decide +kernel
theorem dX7_nextOrder_45 : decode cX7_nextOrder 45 = .ok (.iload_n 3, 1) := by decide +kernel
theorem dX7_nextOrder_46 : decode cX7_nextOrder 46 = .ok (.iaload, 1) := by decide +kernel
theorem dX7_nextOrder_47 : decode cX7_nextOrder 47 = .ok (.aload_n 0, 1) := by decide +kernel
theorem dX7_nextOrder_48 : decode cX7_nextOrder 48 = .ok (.getfield 19, 3) := by decide +kernel
theorem dX7_nextOrder_51 : decode cX7_nextOrder 51 = .ok (.iload_n 2, 1) := by decide +kernel
theorem dX7_nextOrder_52 : decode cX7_nextOrder 52 = .ok (.iaload, 1) := by decide +kernel
theorem dX7_nextOrder_53 : decode cX7_nextOrder 53 = .ok (.if_icmp .ge 9, 3) := by decide +kernel
theorem dX7_nextOrder_56 : decode cX7_nextOrder 56 = .ok (.iinc 3 (-1), 3) := by decide +kernel
theorem dX7_nextOrder_59 : decode cX7_nextOrder 59 = .ok (.goto (-18), 3) := by decide +kernel
theorem dX7_nextOrder_62 : decode cX7_nextOrder 62 = .ok (.aload_n 0, 1) := by decide +kernel
theorem dX7_nextOrder_63 : decode cX7_nextOrder 63 = .ok (.iload_n 2, 1) := by decide +kernel
theorem dX7_nextOrder_64 : decode cX7_nextOrder 64 = .ok (.iload_n 3, 1) := by decide +kernel
theorem dX7_nextOrder_65 : decode cX7_nextOrder 65 = .ok (.invokevirtual 87, 3) := by decide +kernel
theorem dX7_nextOrder_68 : decode cX7_nextOrder 68 = .ok (.iconst 1, 1) := by decide +kernel
theorem dX7_nextOrder_69 : decode cX7_nextOrder 69 = .ok (.istore 4, 2) := by decide +kernel
theorem dX7_nextOrder_71 : decode cX7_nextOrder 71 = .ok (.iload_n 2, 1) := by decide +kernel
theorem dX7_nextOrder_72 : decode cX7_nextOrder 72 = .ok (.iload 4, 2) := by decide +kernel
theorem dX7_nextOrder_74 : decode cX7_nextOrder 74 = .ok (.iadd, 1) := by decide +kernel
theorem dX7_nextOrder_75 : decode cX7_nextOrder 75 = .ok (.iload_n 1, 1) := by decide +kernel
theorem dX7_nextOrder_76 : decode cX7_nextOrder 76 = .ok (.iload 4, 2) := by decide +kernel
theorem dX7_nextOrder_78 : decode cX7_nextOrder 78 = .ok (.isub, 1) := by decide +kernel
theorem dX7_nextOrder_79 : decode cX7_nextOrder 79 = .ok (.if_icmp .ge 21, 3) := by decide +kernel
theorem dX7_nextOrder_82 : decode cX7_nextOrder 82 = .ok (.aload_n 0, 1) := by decide +kernel
theorem dX7_nextOrder_83 : decode cX7_nextOrder 83 = .ok (.iload_n 2, 1) := by decide +kernel
theorem dX7_nextOrder_84 : decode cX7_nextOrder 84 = .ok (.iload 4, 2) := by decide +kernel
theorem dX7_nextOrder_86 : decode cX7_nextOrder 86 = .ok (.iadd, 1) := by decide +kernel
theorem dX7_nextOrder_87 : decode cX7_nextOrder 87 = .ok (.iload_n 1, 1) := by decide +kernel
theorem dX7_nextOrder_88 : decode cX7_nextOrder 88 = .ok (.iload 4, 2) := by decide +kernel
theorem dX7_nextOrder_90 : decode cX7_nextOrder 90 = .ok (.isub, 1) := by decide +kernel
theorem dX7_nextOrder_91 : decode cX7_nextOrder 91 = .ok (.invokevirtual 87, 3) := by decide +kernel
theorem dX7_nextOrder_94 : decode cX7_nextOrder 94 = .ok (.iinc 4 1, 3) := by decide +kernel
theorem dX7_nextOrder_97 : decode cX7_nextOrder 97 = .ok (.goto (-26), 3) := by decide +kernel
theorem dX7_nextOrder_100 : decode cX7_nextOrder 100 = .ok (.iconst 1, 1) := by decide +kernel
theorem dX7_nextOrder_101 : decode cX7_nextOrder 101 = .ok (.ireturn, 1) := by decide +kernel
theorem dX7_swapOrder_0 : decode cX7_swapOrder 0 = .ok (.aload_n 0, 1) := by decide +kernel
theorem dX7_swapOrder_1 : decode cX7_swapOrder 1 = .ok (.getfield 19, 3) := by decide +kernel
theorem dX7_swapOrder_4 : decode cX7_swapOrder 4 = .ok (.iload_n 1, 1) := by decide +kernel
theorem dX7_swapOrder_5 : decode cX7_swapOrder 5 = .ok (.iaload, 1) := by decide +kernel
theorem dX7_swapOrder_6 : decode cX7_swapOrder 6 = .ok (.istore_n 3, 1) := by decide +kernel
theorem dX7_swapOrder_7 : decode cX7_swapOrder 7 = .ok (.aload_n 0, 1) := by decide +kernel
theorem dX7_swapOrder_8 : decode cX7_swapOrder 8 = .ok (.getfield 19, 3) := by decide +kernel
theorem dX7_swapOrder_11 : decode cX7_swapOrder 11 = .ok (.iload_n 1, 1) := by decide +kernel
theorem dX7_swapOrder_12 : decode cX7_swapOrder 12 = .ok (.aload_n 0, 1) := by decide +kernel
theorem dX7_swapOrder_13 : decode cX7_swapOrder 13 = .ok (.getfield 19, 3) := by decide +kernel
theorem dX7_swapOrder_16 : decode cX7_swapOrder 16 = .ok (.iload_n 2, 1) := by decide +kernel
theorem dX7_swapOrder_17 : decode cX7_swapOrder 17 = .ok (.iaload, 1) := by decide +kernel
theorem dX7_swapOrder_18 : decode cX7_swapOrder 18 = .ok (.iastore, 1) := by decide +kernel
theorem dX7_swapOrder_19 : decode cX7_swapOrder 19 = .ok (.aload_n 0, 1) := by decide +kernel
theorem dX7_swapOrder_20 : decode cX7_swapOrder 20 = .ok (.getfield 19, 3) := by decide +kernel
theorem dX7_swapOrder_23 : decode cX7_swapOrder 23 = .ok (.iload_n 2, 1) := by decide +kernel
theorem dX7_swapOrder_24 : decode cX7_swapOrder 24 = .ok (.iload_n 3, 1) := by decide +kernel
theorem dX7_swapOrder_25 : decode cX7_swapOrder 25 = .ok (.iastore, 1) := by decide +kernel
theorem dX7_swapOrder_26 : decode cX7_swapOrder 26 = .ok (.return_, 1) := by decide +kernel
theorem dX7_swapsOf_0 : decode cX7_swapsOf 0 = .ok (.iconst 0, 1) := by decide +kernel
theorem dX7_swapsOf_1 : decode cX7_swapsOf 1 = .ok (.istore_n 2, 1) := by decide +kernel
theorem dX7_swapsOf_2 : decode cX7_swapsOf 2 = .ok (.iconst 0, 1) := by decide +kernel
theorem dX7_swapsOf_3 : decode cX7_swapsOf 3 = .ok (.istore_n 3, 1) := by decide +kernel
theorem dX7_swapsOf_4 : decode cX7_swapsOf 4 = .ok (.iload_n 3, 1) := by decide +kernel
theorem dX7_swapsOf_5 : decode cX7_swapsOf 5 = .ok (.iload_n 1, 1) := by decide +kernel
theorem dX7_swapsOf_6 : decode cX7_swapsOf 6 = .ok (.if_icmp .ge 48, 3) := by decide +kernel
theorem dX7_swapsOf_9 : decode cX7_swapsOf 9 = .ok (.iconst 0, 1) := by decide +kernel
theorem dX7_swapsOf_10 : decode cX7_swapsOf 10 = .ok (.istore 4, 2) := by decide +kernel
theorem dX7_swapsOf_12 : decode cX7_swapsOf 12 = .ok (.iload 4, 2) := by decide +kernel
theorem dX7_swapsOf_14 : decode cX7_swapsOf 14 = .ok (.iload_n 3, 1) := by decide +kernel
theorem dX7_swapsOf_15 : decode cX7_swapsOf 15 = .ok (.if_icmp .ge 33, 3) := by decide +kernel
theorem dX7_swapsOf_18 : decode cX7_swapsOf 18 = .ok (.iload_n 2, 1) := by decide +kernel
theorem dX7_swapsOf_19 : decode cX7_swapsOf 19 = .ok (.aload_n 0, 1) := by decide +kernel
theorem dX7_swapsOf_20 : decode cX7_swapsOf 20 = .ok (.getfield 19, 3) := by decide +kernel
theorem dX7_swapsOf_23 : decode cX7_swapsOf 23 = .ok (.iload 4, 2) := by decide +kernel
theorem dX7_swapsOf_25 : decode cX7_swapsOf 25 = .ok (.iaload, 1) := by decide +kernel
theorem dX7_swapsOf_26 : decode cX7_swapsOf 26 = .ok (.aload_n 0, 1) := by decide +kernel
theorem dX7_swapsOf_27 : decode cX7_swapsOf 27 = .ok (.getfield 19, 3) := by decide +kernel
theorem dX7_swapsOf_30 : decode cX7_swapsOf 30 = .ok (.iload_n 3, 1) := by decide +kernel
theorem dX7_swapsOf_31 : decode cX7_swapsOf 31 = .ok (.iaload, 1) := by decide +kernel
theorem dX7_swapsOf_32 : decode cX7_swapsOf 32 = .ok (.if_icmp .le 7, 3) := by decide +kernel
theorem dX7_swapsOf_35 : decode cX7_swapsOf 35 = .ok (.iconst 1, 1) := by decide +kernel
theorem dX7_swapsOf_36 : decode cX7_swapsOf 36 = .ok (.goto 4, 3) := by decide +kernel
theorem dX7_swapsOf_39 : decode cX7_swapsOf 39 = .ok (.iconst 0, 1) := by decide +kernel
theorem dX7_swapsOf_40 : decode cX7_swapsOf 40 = .ok (.iadd, 1) := by decide +kernel
theorem dX7_swapsOf_41 : decode cX7_swapsOf 41 = .ok (.istore_n 2, 1) := by decide +kernel
theorem dX7_swapsOf_42 : decode cX7_swapsOf 42 = .ok (.iinc 4 1, 3) := by decide +kernel
theorem dX7_swapsOf_45 : decode cX7_swapsOf 45 = .ok (.goto (-33), 3) := by decide +kernel
theorem dX7_swapsOf_48 : decode cX7_swapsOf 48 = .ok (.iinc 3 1, 3) := by decide +kernel
theorem dX7_swapsOf_51 : decode cX7_swapsOf 51 = .ok (.goto (-47), 3) := by decide +kernel
theorem dX7_swapsOf_54 : decode cX7_swapsOf 54 = .ok (.iload_n 2, 1) := by decide +kernel
theorem dX7_swapsOf_55 : decode cX7_swapsOf 55 = .ok (.ireturn, 1) := by decide +kernel
theorem dX7_tryOrders_0 : decode cX7_tryOrders 0 = .ok (.aload_n 0, 1) := by decide +kernel
theorem dX7_tryOrders_1 : decode cX7_tryOrders 1 = .ok (.getfield 7, 3) := by decide +kernel
theorem dX7_tryOrders_4 : decode cX7_tryOrders 4 = .ok (.iconst 0, 1) := by decide +kernel
theorem dX7_tryOrders_5 : decode cX7_tryOrders 5 = .ok (.iload_n 1, 1) := by decide +kernel
theorem dX7_tryOrders_6 : decode cX7_tryOrders 6 = .ok (.iadd, 1) := by decide +kernel
theorem dX7_tryOrders_7 : decode cX7_tryOrders 7 = .ok (.iaload, 1) := by decide +kernel
theorem dX7_tryOrders_8 : decode cX7_tryOrders 8 = .ok (.istore_n 2, 1) := by decide +kernel
theorem dX7_tryOrders_9 : decode cX7_tryOrders 9 = .ok (.iconst 0, 1) := by decide +kernel
theorem dX7_tryOrders_10 : decode cX7_tryOrders 10 = .ok (.istore_n 3, 1) := by decide +kernel
theorem dX7_tryOrders_11 : decode cX7_tryOrders 11 = .ok (.iload_n 3, 1) := by decide +kernel
theorem dX7_tryOrders_12 : decode cX7_tryOrders 12 = .ok (.iload_n 2, 1) := by decide +kernel
theorem dX7_tryOrders_13 : decode cX7_tryOrders 13 = .ok (.if_icmp .ge 28, 3) := by decide +kernel
theorem dX7_tryOrders_16 : decode cX7_tryOrders 16 = .ok (.aload_n 0, 1) := by decide +kernel
theorem dX7_tryOrders_17 : decode cX7_tryOrders 17 = .ok (.getfield 19, 3) := by decide +kernel
theorem dX7_tryOrders_20 : decode cX7_tryOrders 20 = .ok (.iload_n 3, 1) := by decide +kernel
theorem dX7_tryOrders_21 : decode cX7_tryOrders 21 = .ok (.iload_n 3, 1) := by decide +kernel
theorem dX7_tryOrders_22 : decode cX7_tryOrders 22 = .ok (.iastore, 1) := by decide +kernel
theorem dX7_tryOrders_23 : decode cX7_tryOrders 23 = .ok (.aload_n 0, 1) := by decide +kernel
theorem dX7_tryOrders_24 : decode cX7_tryOrders 24 = .ok (.getfield 22, 3) := by decide +kernel
theorem dX7_tryOrders_27 : decode cX7_tryOrders 27 = .ok (.iload_n 3, 1) := by decide +kernel
theorem dX7_tryOrders_28 : decode cX7_tryOrders 28 = .ok (.aload_n 0, 1) := by decide +kernel
theorem dX7_tryOrders_29 : decode cX7_tryOrders 29 = .ok (.iload_n 1, 1) := by decide +kernel
theorem dX7_tryOrders_30 : decode cX7_tryOrders 30 = .ok (.iload_n 3, 1) := by decide +kernel
theorem dX7_tryOrders_31 : decode cX7_tryOrders 31 = .ok (.invokevirtual 77, 3) := by decide +kernel
theorem dX7_tryOrders_34 : decode cX7_tryOrders 34 = .ok (.iastore, 1) := by decide +kernel
theorem dX7_tryOrders_35 : decode cX7_tryOrders 35 = .ok (.iinc 3 1, 3) := by decide +kernel
theorem dX7_tryOrders_38 : decode cX7_tryOrders 38 = .ok (.goto (-27), 3) := by decide +kernel
theorem dX7_tryOrders_41 : decode cX7_tryOrders 41 = .ok (.aload_n 0, 1) := by decide +kernel
theorem dX7_tryOrders_42 : decode cX7_tryOrders 42 = .ok (.iconst (-1), 1) := by decide +kernel
theorem dX7_tryOrders_43 : decode cX7_tryOrders 43 = .ok (.putfield 91, 3) := by decide +kernel
theorem dX7_tryOrders_46 : decode cX7_tryOrders 46 = .ok (.iconst 1, 1) := by decide +kernel
theorem dX7_tryOrders_47 : decode cX7_tryOrders 47 = .ok (.istore_n 3, 1) := by decide +kernel
theorem dX7_tryOrders_48 : decode cX7_tryOrders 48 = .ok (.iload_n 3, 1) := by decide +kernel
theorem dX7_tryOrders_49 : decode cX7_tryOrders 49 = .ok (.ifCond .eq 130, 3) := by decide +kernel
theorem dX7_tryOrders_52 : decode cX7_tryOrders 52 = .ok (.iconst 0, 1) := by decide +kernel
theorem dX7_tryOrders_53 : decode cX7_tryOrders 53 = .ok (.istore 4, 2) := by decide +kernel
theorem dX7_tryOrders_55 : decode cX7_tryOrders 55 = .ok (.iload 4, 2) := by decide +kernel
theorem dX7_tryOrders_57 : decode cX7_tryOrders 57 = .ok (.iload_n 2, 1) := by decide +kernel
theorem dX7_tryOrders_58 : decode cX7_tryOrders 58 = .ok (.if_icmp .ge 36, 3) := by decide +kernel
theorem dX7_tryOrders_61 : decode cX7_tryOrders 61 = .ok (.aload_n 0, 1) := by decide +kernel
theorem dX7_tryOrders_62 : decode cX7_tryOrders 62 = .ok (.getfield 7, 3) := by decide +kernel
theorem dX7_tryOrders_65 : decode cX7_tryOrders 65 = .ok (.bipush 28, 2) := by decide +kernel
theorem dX7_tryOrders_67 : decode cX7_tryOrders 67 = .ok (.bipush 6, 2) := by decide +kernel
theorem dX7_tryOrders_69 : decode cX7_tryOrders 69 = .ok (.iload_n 1, 1) := by decide +kernel
theorem dX7_tryOrders_70 : decode cX7_tryOrders 70 = .ok (.imul, 1) := by decide +kernel
theorem dX7_tryOrders_71 : decode cX7_tryOrders 71 = .ok (.iadd, 1) := by decide +kernel
theorem dX7_tryOrders_72 : decode cX7_tryOrders 72 = .ok (.iload 4, 2) := by decide +kernel
theorem dX7_tryOrders_74 : decode cX7_tryOrders 74 = .ok (.iadd, 1) := by decide +kernel
theorem dX7_tryOrders_75 : decode cX7_tryOrders 75 = .ok (.aload_n 0, 1) := by decide +kernel
theorem dX7_tryOrders_76 : decode cX7_tryOrders 76 = .ok (.getfield 22, 3) := by decide +kernel
theorem dX7_tryOrders_79 : decode cX7_tryOrders 79 = .ok (.aload_n 0, 1) := by decide +kernel
theorem dX7_tryOrders_80 : decode cX7_tryOrders 80 = .ok (.getfield 19, 3) := by decide +kernel
theorem dX7_tryOrders_83 : decode cX7_tryOrders 83 = .ok (.iload 4, 2) := by decide +kernel
theorem dX7_tryOrders_85 : decode cX7_tryOrders 85 = .ok (.iaload, 1) := by decide +kernel
theorem dX7_tryOrders_86 : decode cX7_tryOrders 86 = .ok (.iaload, 1) := by decide +kernel
theorem dX7_tryOrders_87 : decode cX7_tryOrders 87 = .ok (.iastore, 1) := by decide +kernel
theorem dX7_tryOrders_88 : decode cX7_tryOrders 88 = .ok (.iinc 4 1, 3) := by decide +kernel
theorem dX7_tryOrders_91 : decode cX7_tryOrders 91 = .ok (.goto (-36), 3) := by decide +kernel
theorem dX7_tryOrders_94 : decode cX7_tryOrders 94 = .ok (.aload_n 0, 1) := by decide +kernel
theorem dX7_tryOrders_95 : decode cX7_tryOrders 95 = .ok (.iload_n 1, 1) := by decide +kernel
theorem dX7_tryOrders_96 : decode cX7_tryOrders 96 = .ok (.invokevirtual 84, 3) := by decide +kernel
theorem dX7_tryOrders_99 : decode cX7_tryOrders 99 = .ok (.istore 4, 2) := by decide +kernel
theorem dX7_tryOrders_101 : decode cX7_tryOrders 101 = .ok (.aload_n 0, 1) := by decide +kernel
theorem dX7_tryOrders_102 : decode cX7_tryOrders 102 = .ok (.iload_n 2, 1) := by decide +kernel
theorem dX7_tryOrders_103 : decode cX7_tryOrders 103 = .ok (.invokevirtual 94, 3) := by decide +kernel
theorem dX7_tryOrders_106 : decode cX7_tryOrders 106 = .ok (.istore 5, 2) := by decide +kernel
theorem dX7_tryOrders_108 : decode cX7_tryOrders 108 = .ok (.aload_n 0, 1) := by decide +kernel
theorem dX7_tryOrders_109 : decode cX7_tryOrders 109 = .ok (.iload 4, 2) := by decide +kernel
theorem dX7_tryOrders_111 : decode cX7_tryOrders 111 = .ok (.aload_n 0, 1) := by decide +kernel
theorem dX7_tryOrders_112 : decode cX7_tryOrders 112 = .ok (.getfield 91, 3) := by decide +kernel
theorem dX7_tryOrders_115 : decode cX7_tryOrders 115 = .ok (.if_icmp .gt 21, 3) := by decide +kernel
theorem dX7_tryOrders_118 : decode cX7_tryOrders 118 = .ok (.iload 4, 2) := by decide +kernel
theorem dX7_tryOrders_120 : decode cX7_tryOrders 120 = .ok (.aload_n 0, 1) := by decide +kernel
theorem dX7_tryOrders_121 : decode cX7_tryOrders 121 = .ok (.getfield 91, 3) := by decide +kernel
theorem dX7_tryOrders_124 : decode cX7_tryOrders 124 = .ok (.if_icmp .ne 17, 3) := by decide +kernel
theorem dX7_tryOrders_127 : decode cX7_tryOrders 127 = .ok (.iload 5, 2) := by decide +kernel
theorem dX7_tryOrders_129 : decode cX7_tryOrders 129 = .ok (.aload_n 0, 1) := by decide +kernel
theorem dX7_tryOrders_130 : decode cX7_tryOrders 130 = .ok (.getfield 97, 3) := by decide +kernel
theorem dX7_tryOrders_133 : decode cX7_tryOrders 133 = .ok (.if_icmp .ge 8, 3) := by decide +kernel
theorem dX7_tryOrders_136 : decode cX7_tryOrders 136 = .ok (.iload 5, 2) := by decide +kernel
theorem dX7_tryOrders_138 : decode cX7_tryOrders 138 = .ok (.goto 7, 3) := by decide +kernel
theorem dX7_tryOrders_141 : decode cX7_tryOrders 141 = .ok (.aload_n 0, 1) := by decide +kernel
theorem dX7_tryOrders_142 : decode cX7_tryOrders 142 = .ok (.getfield 97, 3) := by decide +kernel
theorem dX7_tryOrders_145 : decode cX7_tryOrders 145 = .ok (.putfield 97, 3) := by decide +kernel
theorem dX7_tryOrders_148 : decode cX7_tryOrders 148 = .ok (.aload_n 0, 1) := by decide +kernel
theorem dX7_tryOrders_149 : decode cX7_tryOrders 149 = .ok (.iload 4, 2) := by decide +kernel
theorem dX7_tryOrders_151 : decode cX7_tryOrders 151 = .ok (.aload_n 0, 1) := by decide +kernel
theorem dX7_tryOrders_152 : decode cX7_tryOrders 152 = .ok (.getfield 91, 3) := by decide +kernel
theorem dX7_tryOrders_155 : decode cX7_tryOrders 155 = .ok (.if_icmp .le 8, 3) := by decide +kernel
theorem dX7_tryOrders_158 : decode cX7_tryOrders 158 = .ok (.iload 4, 2) := by decide +kernel
theorem dX7_tryOrders_160 : decode cX7_tryOrders 160 = .ok (.goto 7, 3) := by decide +kernel
theorem dX7_tryOrders_163 : decode cX7_tryOrders 163 = .ok (.aload_n 0, 1) := by decide +kernel
theorem dX7_tryOrders_164 : decode cX7_tryOrders 164 = .ok (.getfield 91, 3) := by decide +kernel
theorem dX7_tryOrders_167 : decode cX7_tryOrders 167 = .ok (.putfield 91, 3) := by decide +kernel
theorem dX7_tryOrders_170 : decode cX7_tryOrders 170 = .ok (.aload_n 0, 1) := by decide +kernel
theorem dX7_tryOrders_171 : decode cX7_tryOrders 171 = .ok (.iload_n 2, 1) := by decide +kernel
theorem dX7_tryOrders_172 : decode cX7_tryOrders 172 = .ok (.invokevirtual 100, 3) := by decide +kernel
theorem dX7_tryOrders_175 : decode cX7_tryOrders 175 = .ok (.istore_n 3, 1) := by decide +kernel
theorem dX7_tryOrders_176 : decode cX7_tryOrders 176 = .ok (.goto (-128), 3) := by decide +kernel
theorem dX7_tryOrders_179 : decode cX7_tryOrders 179 = .ok (.iconst 0, 1) := by decide +kernel
theorem dX7_tryOrders_180 : decode cX7_tryOrders 180 = .ok (.istore 4, 2) := by decide +kernel
theorem dX7_tryOrders_182 : decode cX7_tryOrders 182 = .ok (.iload 4, 2) := by decide +kernel
theorem dX7_tryOrders_184 : decode cX7_tryOrders 184 = .ok (.iload_n 2, 1) := by decide +kernel
theorem dX7_tryOrders_185 : decode cX7_tryOrders 185 = .ok (.if_icmp .ge 31, 3) := by decide +kernel
theorem dX7_tryOrders_188 : decode cX7_tryOrders 188 = .ok (.aload_n 0, 1) := by decide +kernel
theorem dX7_tryOrders_189 : decode cX7_tryOrders 189 = .ok (.getfield 7, 3) := by decide +kernel
theorem dX7_tryOrders_192 : decode cX7_tryOrders 192 = .ok (.bipush 28, 2) := by decide +kernel
theorem dX7_tryOrders_194 : decode cX7_tryOrders 194 = .ok (.bipush 6, 2) := by decide +kernel
theorem dX7_tryOrders_196 : decode cX7_tryOrders 196 = .ok (.iload_n 1, 1) := by decide +kernel
theorem dX7_tryOrders_197 : decode cX7_tryOrders 197 = .ok (.imul, 1) := by decide +kernel
theorem dX7_tryOrders_198 : decode cX7_tryOrders 198 = .ok (.iadd, 1) := by decide +kernel
theorem dX7_tryOrders_199 : decode cX7_tryOrders 199 = .ok (.iload 4, 2) := by decide +kernel
theorem dX7_tryOrders_201 : decode cX7_tryOrders 201 = .ok (.iadd, 1) := by decide +kernel
theorem dX7_tryOrders_202 : decode cX7_tryOrders 202 = .ok (.aload_n 0, 1) := by decide +kernel
theorem dX7_tryOrders_203 : decode cX7_tryOrders 203 = .ok (.getfield 22, 3) := by decide +kernel
theorem dX7_tryOrders_206 : decode cX7_tryOrders 206 = .ok (.iload 4, 2) := by decide +kernel
theorem dX7_tryOrders_208 : decode cX7_tryOrders 208 = .ok (.iaload, 1) := by decide +kernel
theorem dX7_tryOrders_209 : decode cX7_tryOrders 209 = .ok (.iastore, 1) := by decide +kernel
theorem dX7_tryOrders_210 : decode cX7_tryOrders 210 = .ok (.iinc 4 1, 3) := by decide +kernel
theorem dX7_tryOrders_213 : decode cX7_tryOrders 213 = .ok (.goto (-31), 3) := by decide +kernel
theorem dX7_tryOrders_216 : decode cX7_tryOrders 216 = .ok (.return_, 1) := by decide +kernel
theorem dX7_joinNow_0 : decode cX7_joinNow 0 = .ok (.bipush 6, 2) := by decide +kernel
theorem dX7_joinNow_2 : decode cX7_joinNow 2 = .ok (.iload_n 1, 1) := by decide +kernel
theorem dX7_joinNow_3 : decode cX7_joinNow 3 = .ok (.imul, 1) := by decide +kernel
theorem dX7_joinNow_4 : decode cX7_joinNow 4 = .ok (.aload_n 0, 1) := by decide +kernel
theorem dX7_joinNow_5 : decode cX7_joinNow 5 = .ok (.getfield 7, 3) := by decide +kernel
theorem dX7_joinNow_8 : decode cX7_joinNow 8 = .ok (.iconst 0, 1) := by decide +kernel
theorem dX7_joinNow_9 : decode cX7_joinNow 9 = .ok (.iload_n 1, 1) := by decide +kernel
theorem dX7_joinNow_10 : decode cX7_joinNow 10 = .ok (.iadd, 1) := by decide +kernel
theorem dX7_joinNow_11 : decode cX7_joinNow 11 = .ok (.iaload, 1) := by decide +kernel
theorem dX7_joinNow_12 : decode cX7_joinNow 12 = .ok (.iadd, 1) := by decide +kernel
theorem dX7_joinNow_13 : decode cX7_joinNow 13 = .ok (.istore 4, 2) := by decide +kernel
theorem dX7_joinNow_15 : decode cX7_joinNow 15 = .ok (.aload_n 0, 1) := by decide +kernel
theorem dX7_joinNow_16 : decode cX7_joinNow 16 = .ok (.getfield 7, 3) := by decide +kernel
theorem dX7_joinNow_19 : decode cX7_joinNow 19 = .ok (.iconst 4, 1) := by decide +kernel
theorem dX7_joinNow_20 : decode cX7_joinNow 20 = .ok (.iload 4, 2) := by decide +kernel
theorem dX7_joinNow_22 : decode cX7_joinNow 22 = .ok (.iadd, 1) := by decide +kernel
theorem dX7_joinNow_23 : decode cX7_joinNow 23 = .ok (.aload_n 0, 1) := by decide +kernel
theorem dX7_joinNow_24 : decode cX7_joinNow 24 = .ok (.getfield 7, 3) := by decide +kernel
theorem dX7_joinNow_27 : decode cX7_joinNow 27 = .ok (.bipush 78, 2) := by decide +kernel
theorem dX7_joinNow_29 : decode cX7_joinNow 29 = .ok (.iaload, 1) := by decide +kernel
theorem dX7_joinNow_30 : decode cX7_joinNow 30 = .ok (.iastore, 1) := by decide +kernel
theorem dX7_joinNow_31 : decode cX7_joinNow 31 = .ok (.aload_n 0, 1) := by decide +kernel
theorem dX7_joinNow_32 : decode cX7_joinNow 32 = .ok (.getfield 7, 3) := by decide +kernel
theorem dX7_joinNow_35 : decode cX7_joinNow 35 = .ok (.bipush 28, 2) := by decide +kernel
theorem dX7_joinNow_37 : decode cX7_joinNow 37 = .ok (.iload 4, 2) := by decide +kernel
theorem dX7_joinNow_39 : decode cX7_joinNow 39 = .ok (.iadd, 1) := by decide +kernel
theorem dX7_joinNow_40 : decode cX7_joinNow 40 = .ok (.iload_n 2, 1) := by decide +kernel
theorem dX7_joinNow_41 : decode cX7_joinNow 41 = .ok (.iastore, 1) := by decide +kernel
theorem dX7_joinNow_42 : decode cX7_joinNow 42 = .ok (.aload_n 0, 1) := by decide +kernel
theorem dX7_joinNow_43 : decode cX7_joinNow 43 = .ok (.getfield 7, 3) := by decide +kernel
theorem dX7_joinNow_46 : decode cX7_joinNow 46 = .ok (.bipush 52, 2) := by decide +kernel
theorem dX7_joinNow_48 : decode cX7_joinNow 48 = .ok (.iload 4, 2) := by decide +kernel
theorem dX7_joinNow_50 : decode cX7_joinNow 50 = .ok (.iadd, 1) := by decide +kernel
theorem dX7_joinNow_51 : decode cX7_joinNow 51 = .ok (.iload_n 3, 1) := by decide +kernel
theorem dX7_joinNow_52 : decode cX7_joinNow 52 = .ok (.iastore, 1) := by decide +kernel
theorem dX7_joinNow_53 : decode cX7_joinNow 53 = .ok (.aload_n 0, 1) := by decide +kernel
theorem dX7_joinNow_54 : decode cX7_joinNow 54 = .ok (.getfield 7, 3) := by decide +kernel
theorem dX7_joinNow_57 : decode cX7_joinNow 57 = .ok (.iconst 0, 1) := by decide +kernel
theorem dX7_joinNow_58 : decode cX7_joinNow 58 = .ok (.iload_n 1, 1) := by decide +kernel
theorem dX7_joinNow_59 : decode cX7_joinNow 59 = .ok (.iadd, 1) := by decide +kernel
theorem dX7_joinNow_60 : decode cX7_joinNow 60 = .ok (.dup2, 1) := by decide +kernel
theorem dX7_joinNow_61 : decode cX7_joinNow 61 = .ok (.iaload, 1) := by decide +kernel
theorem dX7_joinNow_62 : decode cX7_joinNow 62 = .ok (.iconst 1, 1) := by decide +kernel
theorem dX7_joinNow_63 : decode cX7_joinNow 63 = .ok (.iadd, 1) := by decide +kernel
theorem dX7_joinNow_64 : decode cX7_joinNow 64 = .ok (.iastore, 1) := by decide +kernel
theorem dX7_joinNow_65 : decode cX7_joinNow 65 = .ok (.aload_n 0, 1) := by decide +kernel
theorem dX7_joinNow_66 : decode cX7_joinNow 66 = .ok (.getfield 7, 3) := by decide +kernel
theorem dX7_joinNow_69 : decode cX7_joinNow 69 = .ok (.bipush 78, 2) := by decide +kernel
theorem dX7_joinNow_71 : decode cX7_joinNow 71 = .ok (.dup2, 1) := by decide +kernel
theorem dX7_joinNow_72 : decode cX7_joinNow 72 = .ok (.iaload, 1) := by decide +kernel
theorem dX7_joinNow_73 : decode cX7_joinNow 73 = .ok (.iconst 1, 1) := by decide +kernel
theorem dX7_joinNow_74 : decode cX7_joinNow 74 = .ok (.iadd, 1) := by decide +kernel
theorem dX7_joinNow_75 : decode cX7_joinNow 75 = .ok (.iastore, 1) := by decide +kernel
theorem dX7_joinNow_76 : decode cX7_joinNow 76 = .ok (.aload_n 0, 1) := by decide +kernel
theorem dX7_joinNow_77 : decode cX7_joinNow 77 = .ok (.getfield 7, 3) := by decide +kernel
theorem dX7_joinNow_80 : decode cX7_joinNow 80 = .ok (.bipush 78, 2) := by decide +kernel
theorem dX7_joinNow_82 : decode cX7_joinNow 82 = .ok (.iaload, 1) := by decide +kernel
theorem dX7_joinNow_83 : decode cX7_joinNow 83 = .ok (.iconst 1, 1) := by decide +kernel
theorem dX7_joinNow_84 : decode cX7_joinNow 84 = .ok (.isub, 1) := by decide +kernel
theorem dX7_joinNow_85 : decode cX7_joinNow 85 = .ok (.ireturn, 1) := by decide +kernel
theorem dX7_removeNow_0 : decode cX7_removeNow 0 = .ok (.aload_n 0, 1) := by decide +kernel
theorem dX7_removeNow_1 : decode cX7_removeNow 1 = .ok (.getfield 7, 3) := by decide +kernel
theorem dX7_removeNow_4 : decode cX7_removeNow 4 = .ok (.iconst 0, 1) := by decide +kernel
theorem dX7_removeNow_5 : decode cX7_removeNow 5 = .ok (.iload_n 1, 1) := by decide +kernel
theorem dX7_removeNow_6 : decode cX7_removeNow 6 = .ok (.iadd, 1) := by decide +kernel
theorem dX7_removeNow_7 : decode cX7_removeNow 7 = .ok (.dup2, 1) := by decide +kernel
theorem dX7_removeNow_8 : decode cX7_removeNow 8 = .ok (.iaload, 1) := by decide +kernel
theorem dX7_removeNow_9 : decode cX7_removeNow 9 = .ok (.iconst 1, 1) := by decide +kernel
theorem dX7_removeNow_10 : decode cX7_removeNow 10 = .ok (.isub, 1) := by decide +kernel
theorem dX7_removeNow_11 : decode cX7_removeNow 11 = .ok (.iastore, 1) := by decide +kernel
theorem dX7_removeNow_12 : decode cX7_removeNow 12 = .ok (.iload_n 2, 1) := by decide +kernel
theorem dX7_removeNow_13 : decode cX7_removeNow 13 = .ok (.istore_n 3, 1) := by decide +kernel
theorem dX7_removeNow_14 : decode cX7_removeNow 14 = .ok (.iload_n 3, 1) := by decide +kernel
theorem dX7_removeNow_15 : decode cX7_removeNow 15 = .ok (.aload_n 0, 1) := by decide +kernel
theorem dX7_removeNow_16 : decode cX7_removeNow 16 = .ok (.getfield 7, 3) := by decide +kernel
theorem dX7_removeNow_19 : decode cX7_removeNow 19 = .ok (.iconst 0, 1) := by decide +kernel
theorem dX7_removeNow_20 : decode cX7_removeNow 20 = .ok (.iload_n 1, 1) := by decide +kernel
theorem dX7_removeNow_21 : decode cX7_removeNow 21 = .ok (.iadd, 1) := by decide +kernel
theorem dX7_removeNow_22 : decode cX7_removeNow 22 = .ok (.iaload, 1) := by decide +kernel
theorem dX7_removeNow_23 : decode cX7_removeNow 23 = .ok (.if_icmp .ge 27, 3) := by decide +kernel
theorem dX7_removeNow_26 : decode cX7_removeNow 26 = .ok (.aload_n 0, 1) := by decide +kernel
theorem dX7_removeNow_27 : decode cX7_removeNow 27 = .ok (.bipush 6, 2) := by decide +kernel
theorem dX7_removeNow_29 : decode cX7_removeNow 29 = .ok (.iload_n 1, 1) := by decide +kernel
theorem dX7_removeNow_30 : decode cX7_removeNow 30 = .ok (.imul, 1) := by decide +kernel
theorem dX7_removeNow_31 : decode cX7_removeNow 31 = .ok (.iload_n 3, 1) := by decide +kernel
theorem dX7_removeNow_32 : decode cX7_removeNow 32 = .ok (.iadd, 1) := by decide +kernel
theorem dX7_removeNow_33 : decode cX7_removeNow 33 = .ok (.iconst 1, 1) := by decide +kernel
theorem dX7_removeNow_34 : decode cX7_removeNow 34 = .ok (.iadd, 1) := by decide +kernel
theorem dX7_removeNow_35 : decode cX7_removeNow 35 = .ok (.bipush 6, 2) := by decide +kernel
theorem dX7_removeNow_37 : decode cX7_removeNow 37 = .ok (.iload_n 1, 1) := by decide +kernel
theorem dX7_removeNow_38 : decode cX7_removeNow 38 = .ok (.imul, 1) := by decide +kernel
theorem dX7_removeNow_39 : decode cX7_removeNow 39 = .ok (.iload_n 3, 1) := by decide +kernel
theorem dX7_removeNow_40 : decode cX7_removeNow 40 = .ok (.iadd, 1) := by decide +kernel
theorem dX7_removeNow_41 : decode cX7_removeNow 41 = .ok (.invokevirtual 103, 3) := by decide +kernel
theorem dX7_removeNow_44 : decode cX7_removeNow 44 = .ok (.iinc 3 1, 3) := by decide +kernel
theorem dX7_removeNow_47 : decode cX7_removeNow 47 = .ok (.goto (-33), 3) := by decide +kernel
theorem dX7_removeNow_50 : decode cX7_removeNow 50 = .ok (.aload_n 0, 1) := by decide +kernel
theorem dX7_removeNow_51 : decode cX7_removeNow 51 = .ok (.bipush 6, 2) := by decide +kernel
theorem dX7_removeNow_53 : decode cX7_removeNow 53 = .ok (.iload_n 1, 1) := by decide +kernel
theorem dX7_removeNow_54 : decode cX7_removeNow 54 = .ok (.imul, 1) := by decide +kernel
theorem dX7_removeNow_55 : decode cX7_removeNow 55 = .ok (.aload_n 0, 1) := by decide +kernel
theorem dX7_removeNow_56 : decode cX7_removeNow 56 = .ok (.getfield 7, 3) := by decide +kernel
theorem dX7_removeNow_59 : decode cX7_removeNow 59 = .ok (.iconst 0, 1) := by decide +kernel
theorem dX7_removeNow_60 : decode cX7_removeNow 60 = .ok (.iload_n 1, 1) := by decide +kernel
theorem dX7_removeNow_61 : decode cX7_removeNow 61 = .ok (.iadd, 1) := by decide +kernel
theorem dX7_removeNow_62 : decode cX7_removeNow 62 = .ok (.iaload, 1) := by decide +kernel
theorem dX7_removeNow_63 : decode cX7_removeNow 63 = .ok (.iadd, 1) := by decide +kernel
theorem dX7_removeNow_64 : decode cX7_removeNow 64 = .ok (.invokevirtual 106, 3) := by decide +kernel
theorem dX7_removeNow_67 : decode cX7_removeNow 67 = .ok (.return_, 1) := by decide +kernel
theorem dX7_copy_0 : decode cX7_copy 0 = .ok (.aload_n 0, 1) := by decide +kernel
theorem dX7_copy_1 : decode cX7_copy 1 = .ok (.getfield 7, 3) := by decide +kernel
theorem dX7_copy_4 : decode cX7_copy 4 = .ok (.iconst 4, 1) := by decide +kernel
theorem dX7_copy_5 : decode cX7_copy 5 = .ok (.iload_n 2, 1) := by decide +kernel
theorem dX7_copy_6 : decode cX7_copy 6 = .ok (.iadd, 1) := by decide +kernel
theorem dX7_copy_7 : decode cX7_copy 7 = .ok (.aload_n 0, 1) := by decide +kernel
theorem dX7_copy_8 : decode cX7_copy 8 = .ok (.getfield 7, 3) := by decide +kernel
theorem dX7_copy_11 : decode cX7_copy 11 = .ok (.iconst 4, 1) := by decide +kernel
theorem dX7_copy_12 : decode cX7_copy 12 = .ok (.iload_n 1, 1) := by decide +kernel
theorem dX7_copy_13 : decode cX7_copy 13 = .ok (.iadd, 1) := by decide +kernel
theorem dX7_copy_14 : decode cX7_copy 14 = .ok (.iaload, 1) := by decide +kernel
theorem dX7_copy_15 : decode cX7_copy 15 = .ok (.iastore, 1) := by decide +kernel
theorem dX7_copy_16 : decode cX7_copy 16 = .ok (.aload_n 0, 1) := by decide +kernel
theorem dX7_copy_17 : decode cX7_copy 17 = .ok (.getfield 7, 3) := by decide +kernel
theorem dX7_copy_20 : decode cX7_copy 20 = .ok (.bipush 28, 2) := by decide +kernel
theorem dX7_copy_22 : decode cX7_copy 22 = .ok (.iload_n 2, 1) := by decide +kernel
theorem dX7_copy_23 : decode cX7_copy 23 = .ok (.iadd, 1) := by decide +kernel
theorem dX7_copy_24 : decode cX7_copy 24 = .ok (.aload_n 0, 1) := by decide +kernel
theorem dX7_copy_25 : decode cX7_copy 25 = .ok (.getfield 7, 3) := by decide +kernel
theorem dX7_copy_28 : decode cX7_copy 28 = .ok (.bipush 28, 2) := by decide +kernel
theorem dX7_copy_30 : decode cX7_copy 30 = .ok (.iload_n 1, 1) := by decide +kernel
theorem dX7_copy_31 : decode cX7_copy 31 = .ok (.iadd, 1) := by decide +kernel
theorem dX7_copy_32 : decode cX7_copy 32 = .ok (.iaload, 1) := by decide +kernel
theorem dX7_copy_33 : decode cX7_copy 33 = .ok (.iastore, 1) := by decide +kernel
theorem dX7_copy_34 : decode cX7_copy 34 = .ok (.aload_n 0, 1) := by decide +kernel
theorem dX7_copy_35 : decode cX7_copy 35 = .ok (.getfield 7, 3) := by decide +kernel
theorem dX7_copy_38 : decode cX7_copy 38 = .ok (.bipush 52, 2) := by decide +kernel
theorem dX7_copy_40 : decode cX7_copy 40 = .ok (.iload_n 2, 1) := by decide +kernel
theorem dX7_copy_41 : decode cX7_copy 41 = .ok (.iadd, 1) := by decide +kernel
theorem dX7_copy_42 : decode cX7_copy 42 = .ok (.aload_n 0, 1) := by decide +kernel
theorem dX7_copy_43 : decode cX7_copy 43 = .ok (.getfield 7, 3) := by decide +kernel
theorem dX7_copy_46 : decode cX7_copy 46 = .ok (.bipush 52, 2) := by decide +kernel
theorem dX7_copy_48 : decode cX7_copy 48 = .ok (.iload_n 1, 1) := by decide +kernel
theorem dX7_copy_49 : decode cX7_copy 49 = .ok (.iadd, 1) := by decide +kernel
theorem dX7_copy_50 : decode cX7_copy 50 = .ok (.iaload, 1) := by decide +kernel
theorem dX7_copy_51 : decode cX7_copy 51 = .ok (.iastore, 1) := by decide +kernel
theorem dX7_copy_52 : decode cX7_copy 52 = .ok (.return_, 1) := by decide +kernel
theorem dX7_clear_0 : decode cX7_clear 0 = .ok (.aload_n 0, 1) := by decide +kernel
theorem dX7_clear_1 : decode cX7_clear 1 = .ok (.getfield 7, 3) := by decide +kernel
theorem dX7_clear_4 : decode cX7_clear 4 = .ok (.iconst 4, 1) := by decide +kernel
theorem dX7_clear_5 : decode cX7_clear 5 = .ok (.iload_n 1, 1) := by decide +kernel
theorem dX7_clear_6 : decode cX7_clear 6 = .ok (.iadd, 1) := by decide +kernel
theorem dX7_clear_7 : decode cX7_clear 7 = .ok (.iconst 0, 1) := by decide +kernel
theorem dX7_clear_8 : decode cX7_clear 8 = .ok (.iastore, 1) := by decide +kernel
theorem dX7_clear_9 : decode cX7_clear 9 = .ok (.aload_n 0, 1) := by decide +kernel
theorem dX7_clear_10 : decode cX7_clear 10 = .ok (.getfield 7, 3) := by decide +kernel
theorem dX7_clear_13 : decode cX7_clear 13 = .ok (.bipush 28, 2) := by decide +kernel
theorem dX7_clear_15 : decode cX7_clear 15 = .ok (.iload_n 1, 1) := by decide +kernel
theorem dX7_clear_16 : decode cX7_clear 16 = .ok (.iadd, 1) := by decide +kernel
theorem dX7_clear_17 : decode cX7_clear 17 = .ok (.iconst 0, 1) := by decide +kernel
theorem dX7_clear_18 : decode cX7_clear 18 = .ok (.iastore, 1) := by decide +kernel
theorem dX7_clear_19 : decode cX7_clear 19 = .ok (.aload_n 0, 1) := by decide +kernel
theorem dX7_clear_20 : decode cX7_clear 20 = .ok (.getfield 7, 3) := by decide +kernel
theorem dX7_clear_23 : decode cX7_clear 23 = .ok (.bipush 52, 2) := by decide +kernel
theorem dX7_clear_25 : decode cX7_clear 25 = .ok (.iload_n 1, 1) := by decide +kernel
theorem dX7_clear_26 : decode cX7_clear 26 = .ok (.iadd, 1) := by decide +kernel
theorem dX7_clear_27 : decode cX7_clear 27 = .ok (.iconst 0, 1) := by decide +kernel
theorem dX7_clear_28 : decode cX7_clear 28 = .ok (.iastore, 1) := by decide +kernel
theorem dX7_clear_29 : decode cX7_clear 29 = .ok (.return_, 1) := by decide +kernel
theorem dX7_exchange_0 : decode cX7_exchange 0 = .ok (.aload_n 0, 1) := by decide +kernel
theorem dX7_exchange_1 : decode cX7_exchange 1 = .ok (.getfield 7, 3) := by decide +kernel
theorem dX7_exchange_4 : decode cX7_exchange 4 = .ok (.iconst 4, 1) := by decide +kernel
theorem dX7_exchange_5 : decode cX7_exchange 5 = .ok (.iload_n 1, 1) := by decide +kernel
theorem dX7_exchange_6 : decode cX7_exchange 6 = .ok (.iadd, 1) := by decide +kernel
theorem dX7_exchange_7 : decode cX7_exchange 7 = .ok (.iaload, 1) := by decide +kernel
theorem dX7_exchange_8 : decode cX7_exchange 8 = .ok (.istore_n 3, 1) := by decide +kernel
theorem dX7_exchange_9 : decode cX7_exchange 9 = .ok (.aload_n 0, 1) := by decide +kernel
theorem dX7_exchange_10 : decode cX7_exchange 10 = .ok (.getfield 7, 3) := by decide +kernel
theorem dX7_exchange_13 : decode cX7_exchange 13 = .ok (.bipush 28, 2) := by decide +kernel
theorem dX7_exchange_15 : decode cX7_exchange 15 = .ok (.iload_n 1, 1) := by decide +kernel
theorem dX7_exchange_16 : decode cX7_exchange 16 = .ok (.iadd, 1) := by decide +kernel
theorem dX7_exchange_17 : decode cX7_exchange 17 = .ok (.iaload, 1) := by decide +kernel
theorem dX7_exchange_18 : decode cX7_exchange 18 = .ok (.istore 4, 2) := by decide +kernel
theorem dX7_exchange_20 : decode cX7_exchange 20 = .ok (.aload_n 0, 1) := by decide +kernel
theorem dX7_exchange_21 : decode cX7_exchange 21 = .ok (.getfield 7, 3) := by decide +kernel
theorem dX7_exchange_24 : decode cX7_exchange 24 = .ok (.bipush 52, 2) := by decide +kernel
theorem dX7_exchange_26 : decode cX7_exchange 26 = .ok (.iload_n 1, 1) := by decide +kernel
theorem dX7_exchange_27 : decode cX7_exchange 27 = .ok (.iadd, 1) := by decide +kernel
theorem dX7_exchange_28 : decode cX7_exchange 28 = .ok (.iaload, 1) := by decide +kernel
theorem dX7_exchange_29 : decode cX7_exchange 29 = .ok (.istore 5, 2) := by decide +kernel
theorem dX7_exchange_31 : decode cX7_exchange 31 = .ok (.aload_n 0, 1) := by decide +kernel
theorem dX7_exchange_32 : decode cX7_exchange 32 = .ok (.iload_n 2, 1) := by decide +kernel
theorem dX7_exchange_33 : decode cX7_exchange 33 = .ok (.iload_n 1, 1) := by decide +kernel
theorem dX7_exchange_34 : decode cX7_exchange 34 = .ok (.invokevirtual 103, 3) := by decide +kernel
theorem dX7_exchange_37 : decode cX7_exchange 37 = .ok (.aload_n 0, 1) := by decide +kernel
theorem dX7_exchange_38 : decode cX7_exchange 38 = .ok (.getfield 7, 3) := by decide +kernel
theorem dX7_exchange_41 : decode cX7_exchange 41 = .ok (.iconst 4, 1) := by decide +kernel
theorem dX7_exchange_42 : decode cX7_exchange 42 = .ok (.iload_n 2, 1) := by decide +kernel
theorem dX7_exchange_43 : decode cX7_exchange 43 = .ok (.iadd, 1) := by decide +kernel
theorem dX7_exchange_44 : decode cX7_exchange 44 = .ok (.iload_n 3, 1) := by decide +kernel
theorem dX7_exchange_45 : decode cX7_exchange 45 = .ok (.iastore, 1) := by decide +kernel
theorem dX7_exchange_46 : decode cX7_exchange 46 = .ok (.aload_n 0, 1) := by decide +kernel
theorem dX7_exchange_47 : decode cX7_exchange 47 = .ok (.getfield 7, 3) := by decide +kernel
theorem dX7_exchange_50 : decode cX7_exchange 50 = .ok (.bipush 28, 2) := by decide +kernel
theorem dX7_exchange_52 : decode cX7_exchange 52 = .ok (.iload_n 2, 1) := by decide +kernel
theorem dX7_exchange_53 : decode cX7_exchange 53 = .ok (.iadd, 1) := by decide +kernel
theorem dX7_exchange_54 : decode cX7_exchange 54 = .ok (.iload 4, 2) := by decide +kernel
theorem dX7_exchange_56 : decode cX7_exchange 56 = .ok (.iastore, 1) := by decide +kernel
theorem dX7_exchange_57 : decode cX7_exchange 57 = .ok (.aload_n 0, 1) := by decide +kernel
theorem dX7_exchange_58 : decode cX7_exchange 58 = .ok (.getfield 7, 3) := by decide +kernel
theorem dX7_exchange_61 : decode cX7_exchange 61 = .ok (.bipush 52, 2) := by decide +kernel
theorem dX7_exchange_63 : decode cX7_exchange 63 = .ok (.iload_n 2, 1) := by decide +kernel
theorem dX7_exchange_64 : decode cX7_exchange 64 = .ok (.iadd, 1) := by decide +kernel
theorem dX7_exchange_65 : decode cX7_exchange 65 = .ok (.iload 5, 2) := by decide +kernel
theorem dX7_exchange_67 : decode cX7_exchange 67 = .ok (.iastore, 1) := by decide +kernel
theorem dX7_exchange_68 : decode cX7_exchange 68 = .ok (.return_, 1) := by decide +kernel
theorem dX7_turnNow_0 : decode cX7_turnNow 0 = .ok (.iconst 0, 1) := by decide +kernel
theorem dX7_turnNow_1 : decode cX7_turnNow 1 = .ok (.istore_n 2, 1) := by decide +kernel
theorem dX7_turnNow_2 : decode cX7_turnNow 2 = .ok (.iload_n 2, 1) := by decide +kernel
theorem dX7_turnNow_3 : decode cX7_turnNow 3 = .ok (.aload_n 0, 1) := by decide +kernel
theorem dX7_turnNow_4 : decode cX7_turnNow 4 = .ok (.getfield 7, 3) := by decide +kernel
theorem dX7_turnNow_7 : decode cX7_turnNow 7 = .ok (.iconst 0, 1) := by decide +kernel
theorem dX7_turnNow_8 : decode cX7_turnNow 8 = .ok (.iload_n 1, 1) := by decide +kernel
theorem dX7_turnNow_9 : decode cX7_turnNow 9 = .ok (.iadd, 1) := by decide +kernel
theorem dX7_turnNow_10 : decode cX7_turnNow 10 = .ok (.iaload, 1) := by decide +kernel
theorem dX7_turnNow_11 : decode cX7_turnNow 11 = .ok (.iconst 2, 1) := by decide +kernel
theorem dX7_turnNow_12 : decode cX7_turnNow 12 = .ok (.idiv, 1) := by decide +kernel
theorem dX7_turnNow_13 : decode cX7_turnNow 13 = .ok (.if_icmp .ge 36, 3) := by decide +kernel
theorem dX7_turnNow_16 : decode cX7_turnNow 16 = .ok (.aload_n 0, 1) := by decide +kernel
theorem dX7_turnNow_17 : decode cX7_turnNow 17 = .ok (.bipush 6, 2) := by decide +kernel
theorem dX7_turnNow_19 : decode cX7_turnNow 19 = .ok (.iload_n 1, 1) := by decide +kernel
theorem dX7_turnNow_20 : decode cX7_turnNow 20 = .ok (.imul, 1) := by decide +kernel
theorem dX7_turnNow_21 : decode cX7_turnNow 21 = .ok (.iload_n 2, 1) := by decide +kernel
theorem dX7_turnNow_22 : decode cX7_turnNow 22 = .ok (.iadd, 1) := by decide +kernel
theorem dX7_turnNow_23 : decode cX7_turnNow 23 = .ok (.bipush 6, 2) := by decide +kernel
theorem dX7_turnNow_25 : decode cX7_turnNow 25 = .ok (.iload_n 1, 1) := by decide +kernel
theorem dX7_turnNow_26 : decode cX7_turnNow 26 = .ok (.imul, 1) := by decide +kernel
theorem dX7_turnNow_27 : decode cX7_turnNow 27 = .ok (.aload_n 0, 1) := by decide +kernel
theorem dX7_turnNow_28 : decode cX7_turnNow 28 = .ok (.getfield 7, 3) := by decide +kernel
theorem dX7_turnNow_31 : decode cX7_turnNow 31 = .ok (.iconst 0, 1) := by decide +kernel
theorem dX7_turnNow_32 : decode cX7_turnNow 32 = .ok (.iload_n 1, 1) := by decide +kernel
theorem dX7_turnNow_33 : decode cX7_turnNow 33 = .ok (.iadd, 1) := by decide +kernel
theorem dX7_turnNow_34 : decode cX7_turnNow 34 = .ok (.iaload, 1) := by decide +kernel
theorem dX7_turnNow_35 : decode cX7_turnNow 35 = .ok (.iadd, 1) := by decide +kernel
theorem dX7_turnNow_36 : decode cX7_turnNow 36 = .ok (.iconst 1, 1) := by decide +kernel
theorem dX7_turnNow_37 : decode cX7_turnNow 37 = .ok (.isub, 1) := by decide +kernel
theorem dX7_turnNow_38 : decode cX7_turnNow 38 = .ok (.iload_n 2, 1) := by decide +kernel
theorem dX7_turnNow_39 : decode cX7_turnNow 39 = .ok (.isub, 1) := by decide +kernel
theorem dX7_turnNow_40 : decode cX7_turnNow 40 = .ok (.invokevirtual 110, 3) := by decide +kernel
theorem dX7_turnNow_43 : decode cX7_turnNow 43 = .ok (.iinc 2 1, 3) := by decide +kernel
theorem dX7_turnNow_46 : decode cX7_turnNow 46 = .ok (.goto (-44), 3) := by decide +kernel
theorem dX7_turnNow_49 : decode cX7_turnNow 49 = .ok (.return_, 1) := by decide +kernel
theorem dX7_isBehind_0 : decode cX7_isBehind 0 = .ok (.iload_n 3, 1) := by decide +kernel
theorem dX7_isBehind_1 : decode cX7_isBehind 1 = .ok (.iconst 2, 1) := by decide +kernel
theorem dX7_isBehind_2 : decode cX7_isBehind 2 = .ok (.if_icmp .ne 32, 3) := by decide +kernel
theorem dX7_isBehind_5 : decode cX7_isBehind 5 = .ok (.aload_n 0, 1) := by decide +kernel
theorem dX7_isBehind_6 : decode cX7_isBehind 6 = .ok (.getfield 7, 3) := by decide +kernel
theorem dX7_isBehind_9 : decode cX7_isBehind 9 = .ok (.bipush 52, 2) := by decide +kernel
theorem dX7_isBehind_11 : decode cX7_isBehind 11 = .ok (.iload_n 1, 1) := by decide +kernel
theorem dX7_isBehind_12 : decode cX7_isBehind 12 = .ok (.iadd, 1) := by decide +kernel
theorem dX7_isBehind_13 : decode cX7_isBehind 13 = .ok (.iaload, 1) := by decide +kernel
theorem dX7_isBehind_14 : decode cX7_isBehind 14 = .ok (.aload_n 0, 1) := by decide +kernel
theorem dX7_isBehind_15 : decode cX7_isBehind 15 = .ok (.getfield 7, 3) := by decide +kernel
theorem dX7_isBehind_18 : decode cX7_isBehind 18 = .ok (.bipush 52, 2) := by decide +kernel
theorem dX7_isBehind_20 : decode cX7_isBehind 20 = .ok (.iload_n 2, 1) := by decide +kernel
theorem dX7_isBehind_21 : decode cX7_isBehind 21 = .ok (.iadd, 1) := by decide +kernel
theorem dX7_isBehind_22 : decode cX7_isBehind 22 = .ok (.iaload, 1) := by decide +kernel
theorem dX7_isBehind_23 : decode cX7_isBehind 23 = .ok (.if_icmp .le 7, 3) := by decide +kernel
theorem dX7_isBehind_26 : decode cX7_isBehind 26 = .ok (.iconst 1, 1) := by decide +kernel
theorem dX7_isBehind_27 : decode cX7_isBehind 27 = .ok (.goto 66, 3) := by decide +kernel
theorem dX7_isBehind_30 : decode cX7_isBehind 30 = .ok (.iconst 0, 1) := by decide +kernel
theorem dX7_isBehind_31 : decode cX7_isBehind 31 = .ok (.goto 62, 3) := by decide +kernel
theorem dX7_isBehind_34 : decode cX7_isBehind 34 = .ok (.iload_n 3, 1) := by decide +kernel
theorem dX7_isBehind_35 : decode cX7_isBehind 35 = .ok (.ifCond .ne 32, 3) := by decide +kernel
theorem dX7_isBehind_38 : decode cX7_isBehind 38 = .ok (.aload_n 0, 1) := by decide +kernel
theorem dX7_isBehind_39 : decode cX7_isBehind 39 = .ok (.getfield 7, 3) := by decide +kernel
theorem dX7_isBehind_42 : decode cX7_isBehind 42 = .ok (.bipush 28, 2) := by decide +kernel
theorem dX7_isBehind_44 : decode cX7_isBehind 44 = .ok (.iload_n 1, 1) := by decide +kernel
theorem dX7_isBehind_45 : decode cX7_isBehind 45 = .ok (.iadd, 1) := by decide +kernel
theorem dX7_isBehind_46 : decode cX7_isBehind 46 = .ok (.iaload, 1) := by decide +kernel
theorem dX7_isBehind_47 : decode cX7_isBehind 47 = .ok (.aload_n 0, 1) := by decide +kernel
theorem dX7_isBehind_48 : decode cX7_isBehind 48 = .ok (.getfield 7, 3) := by decide +kernel
theorem dX7_isBehind_51 : decode cX7_isBehind 51 = .ok (.bipush 28, 2) := by decide +kernel
theorem dX7_isBehind_53 : decode cX7_isBehind 53 = .ok (.iload_n 2, 1) := by decide +kernel
theorem dX7_isBehind_54 : decode cX7_isBehind 54 = .ok (.iadd, 1) := by decide +kernel
theorem dX7_isBehind_55 : decode cX7_isBehind 55 = .ok (.iaload, 1) := by decide +kernel
theorem dX7_isBehind_56 : decode cX7_isBehind 56 = .ok (.if_icmp .le 7, 3) := by decide +kernel
theorem dX7_isBehind_59 : decode cX7_isBehind 59 = .ok (.iconst 1, 1) := by decide +kernel
theorem dX7_isBehind_60 : decode cX7_isBehind 60 = .ok (.goto 33, 3) := by decide +kernel
theorem dX7_isBehind_63 : decode cX7_isBehind 63 = .ok (.iconst 0, 1) := by decide +kernel
theorem dX7_isBehind_64 : decode cX7_isBehind 64 = .ok (.goto 29, 3) := by decide +kernel
theorem dX7_isBehind_67 : decode cX7_isBehind 67 = .ok (.aload_n 0, 1) := by decide +kernel
theorem dX7_isBehind_68 : decode cX7_isBehind 68 = .ok (.getfield 7, 3) := by decide +kernel
theorem dX7_isBehind_71 : decode cX7_isBehind 71 = .ok (.bipush 28, 2) := by decide +kernel
theorem dX7_isBehind_73 : decode cX7_isBehind 73 = .ok (.iload_n 1, 1) := by decide +kernel
theorem dX7_isBehind_74 : decode cX7_isBehind 74 = .ok (.iadd, 1) := by decide +kernel
theorem dX7_isBehind_75 : decode cX7_isBehind 75 = .ok (.iaload, 1) := by decide +kernel
theorem dX7_isBehind_76 : decode cX7_isBehind 76 = .ok (.aload_n 0, 1) := by decide +kernel
theorem dX7_isBehind_77 : decode cX7_isBehind 77 = .ok (.getfield 7, 3) := by decide +kernel
theorem dX7_isBehind_80 : decode cX7_isBehind 80 = .ok (.bipush 28, 2) := by decide +kernel
theorem dX7_isBehind_82 : decode cX7_isBehind 82 = .ok (.iload_n 2, 1) := by decide +kernel
theorem dX7_isBehind_83 : decode cX7_isBehind 83 = .ok (.iadd, 1) := by decide +kernel
theorem dX7_isBehind_84 : decode cX7_isBehind 84 = .ok (.iaload, 1) := by decide +kernel
theorem dX7_isBehind_85 : decode cX7_isBehind 85 = .ok (.if_icmp .ge 7, 3) := by decide +kernel
theorem dX7_isBehind_88 : decode cX7_isBehind 88 = .ok (.iconst 1, 1) := by decide +kernel
theorem dX7_isBehind_89 : decode cX7_isBehind 89 = .ok (.goto 4, 3) := by decide +kernel
theorem dX7_isBehind_92 : decode cX7_isBehind 92 = .ok (.iconst 0, 1) := by decide +kernel
theorem dX7_isBehind_93 : decode cX7_isBehind 93 = .ok (.ireturn, 1) := by decide +kernel
theorem dX7_sortNow_0 : decode cX7_sortNow 0 = .ok (.iconst 0, 1) := by decide +kernel
theorem dX7_sortNow_1 : decode cX7_sortNow 1 = .ok (.istore_n 3, 1) := by decide +kernel
theorem dX7_sortNow_2 : decode cX7_sortNow 2 = .ok (.iload_n 3, 1) := by decide +kernel
theorem dX7_sortNow_3 : decode cX7_sortNow 3 = .ok (.aload_n 0, 1) := by decide +kernel
theorem dX7_sortNow_4 : decode cX7_sortNow 4 = .ok (.getfield 7, 3) := by decide +kernel
theorem dX7_sortNow_7 : decode cX7_sortNow 7 = .ok (.iconst 0, 1) := by decide +kernel
theorem dX7_sortNow_8 : decode cX7_sortNow 8 = .ok (.iload_n 1, 1) := by decide +kernel
theorem dX7_sortNow_9 : decode cX7_sortNow 9 = .ok (.iadd, 1) := by decide +kernel
theorem dX7_sortNow_10 : decode cX7_sortNow 10 = .ok (.iaload, 1) := by decide +kernel
theorem dX7_sortNow_11 : decode cX7_sortNow 11 = .ok (.if_icmp .ge 65, 3) := by decide +kernel
theorem dX7_sortNow_14 : decode cX7_sortNow 14 = .ok (.bipush 6, 2) := by decide +kernel
theorem dX7_sortNow_16 : decode cX7_sortNow 16 = .ok (.iload_n 1, 1) := by decide +kernel
theorem dX7_sortNow_17 : decode cX7_sortNow 17 = .ok (.imul, 1) := by decide +kernel
theorem dX7_sortNow_18 : decode cX7_sortNow 18 = .ok (.istore 4, 2) := by decide +kernel
theorem dX7_sortNow_20 : decode cX7_sortNow 20 = .ok (.iload 4, 2) := by decide +kernel
theorem dX7_sortNow_22 : decode cX7_sortNow 22 = .ok (.iconst 1, 1) := by decide +kernel
theorem dX7_sortNow_23 : decode cX7_sortNow 23 = .ok (.iadd, 1) := by decide +kernel
theorem dX7_sortNow_24 : decode cX7_sortNow 24 = .ok (.bipush 6, 2) := by decide +kernel
theorem dX7_sortNow_26 : decode cX7_sortNow 26 = .ok (.iload_n 1, 1) := by decide +kernel
theorem dX7_sortNow_27 : decode cX7_sortNow 27 = .ok (.imul, 1) := by decide +kernel
theorem dX7_sortNow_28 : decode cX7_sortNow 28 = .ok (.aload_n 0, 1) := by decide +kernel
theorem dX7_sortNow_29 : decode cX7_sortNow 29 = .ok (.getfield 7, 3) := by decide +kernel
theorem dX7_sortNow_32 : decode cX7_sortNow 32 = .ok (.iconst 0, 1) := by decide +kernel
theorem dX7_sortNow_33 : decode cX7_sortNow 33 = .ok (.iload_n 1, 1) := by decide +kernel
theorem dX7_sortNow_34 : decode cX7_sortNow 34 = .ok (.iadd, 1) := by decide +kernel
theorem dX7_sortNow_35 : decode cX7_sortNow 35 = .ok (.iaload, 1) := by decide +kernel
theorem dX7_sortNow_36 : decode cX7_sortNow 36 = .ok (.iadd, 1) := by decide +kernel
theorem dX7_sortNow_37 : decode cX7_sortNow 37 = .ok (.if_icmp .ge 33, 3) := by decide +kernel
theorem dX7_sortNow_40 : decode cX7_sortNow 40 = .ok (.aload_n 0, 1) := by decide +kernel
theorem dX7_sortNow_41 : decode cX7_sortNow 41 = .ok (.iload 4, 2) := by decide +kernel
theorem dX7_sortNow_43 : decode cX7_sortNow 43 = .ok (.iload 4, 2) := by decide +kernel
theorem dX7_sortNow_45 : decode cX7_sortNow 45 = .ok (.iconst 1, 1) := by decide +kernel
theorem dX7_sortNow_46 : decode cX7_sortNow 46 = .ok (.iadd, 1) := by decide +kernel
theorem dX7_sortNow_47 : decode cX7_sortNow 47 = .ok (.iload_n 2, 1) := by decide +kernel
theorem dX7_sortNow_48 : decode cX7_sortNow 48 = .ok (.invokevirtual 113, 3) := by decide +kernel
theorem dX7_sortNow_51 : decode cX7_sortNow 51 = .ok (.ifCond .eq 13, 3) := by decide +kernel
theorem dX7_sortNow_54 : decode cX7_sortNow 54 = .ok (.aload_n 0, 1) := by decide +kernel
theorem dX7_sortNow_55 : decode cX7_sortNow 55 = .ok (.iload 4, 2) := by decide +kernel
theorem dX7_sortNow_57 : decode cX7_sortNow 57 = .ok (.iload 4, 2) := by decide +kernel
theorem dX7_sortNow_59 : decode cX7_sortNow 59 = .ok (.iconst 1, 1) := by decide +kernel
theorem dX7_sortNow_60 : decode cX7_sortNow 60 = .ok (.iadd, 1) := by decide +kernel
theorem dX7_sortNow_61 : decode cX7_sortNow 61 = .ok (.invokevirtual 110, 3) := by decide +kernel
theorem dX7_sortNow_64 : decode cX7_sortNow 64 = .ok (.iinc 4 1, 3) := by decide +kernel
theorem dX7_sortNow_67 : decode cX7_sortNow 67 = .ok (.goto (-47), 3) := by decide +kernel
theorem dX7_sortNow_70 : decode cX7_sortNow 70 = .ok (.iinc 3 1, 3) := by decide +kernel
theorem dX7_sortNow_73 : decode cX7_sortNow 73 = .ok (.goto (-71), 3) := by decide +kernel
theorem dX7_sortNow_76 : decode cX7_sortNow 76 = .ok (.return_, 1) := by decide +kernel
theorem dX7_hasRoom_0 : decode cX7_hasRoom 0 = .ok (.aload_n 0, 1) := by decide +kernel
theorem dX7_hasRoom_1 : decode cX7_hasRoom 1 = .ok (.getfield 7, 3) := by decide +kernel
theorem dX7_hasRoom_4 : decode cX7_hasRoom 4 = .ok (.iconst 0, 1) := by decide +kernel
theorem dX7_hasRoom_5 : decode cX7_hasRoom 5 = .ok (.iload_n 1, 1) := by decide +kernel
theorem dX7_hasRoom_6 : decode cX7_hasRoom 6 = .ok (.iadd, 1) := by decide +kernel
theorem dX7_hasRoom_7 : decode cX7_hasRoom 7 = .ok (.iaload, 1) := by decide +kernel
theorem dX7_hasRoom_8 : decode cX7_hasRoom 8 = .ok (.bipush 6, 2) := by decide +kernel
theorem dX7_hasRoom_10 : decode cX7_hasRoom 10 = .ok (.if_icmp .ge 20, 3) := by decide +kernel
theorem dX7_hasRoom_13 : decode cX7_hasRoom 13 = .ok (.aload_n 0, 1) := by decide +kernel
theorem dX7_hasRoom_14 : decode cX7_hasRoom 14 = .ok (.getfield 7, 3) := by decide +kernel
theorem dX7_hasRoom_17 : decode cX7_hasRoom 17 = .ok (.bipush 78, 2) := by decide +kernel
theorem dX7_hasRoom_19 : decode cX7_hasRoom 19 = .ok (.iaload, 1) := by decide +kernel
theorem dX7_hasRoom_20 : decode cX7_hasRoom 20 = .ok (.sipush 999, 3) := by decide +kernel
theorem dX7_hasRoom_23 : decode cX7_hasRoom 23 = .ok (.if_icmp .ge 7, 3) := by decide +kernel
theorem dX7_hasRoom_26 : decode cX7_hasRoom 26 = .ok (.iconst 1, 1) := by decide +kernel
theorem dX7_hasRoom_27 : decode cX7_hasRoom 27 = .ok (.goto 4, 3) := by decide +kernel
theorem dX7_hasRoom_30 : decode cX7_hasRoom 30 = .ok (.iconst 0, 1) := by decide +kernel
theorem dX7_hasRoom_31 : decode cX7_hasRoom 31 = .ok (.ireturn, 1) := by decide +kernel
theorem dX7_join_0 : decode cX7_join 0 = .ok (.aload_n 0, 1) := by decide +kernel
theorem dX7_join_1 : decode cX7_join 1 = .ok (.iconst 0, 1) := by decide +kernel
theorem dX7_join_2 : decode cX7_join 2 = .ok (.putfield 40, 3) := by decide +kernel
theorem dX7_join_5 : decode cX7_join 5 = .ok (.iload_n 1, 1) := by decide +kernel
theorem dX7_join_6 : decode cX7_join 6 = .ok (.invokestatic 48, 3) := by decide +kernel
theorem dX7_join_9 : decode cX7_join 9 = .ok (.ifCond .ne 9, 3) := by decide +kernel
theorem dX7_join_12 : decode cX7_join 12 = .ok (.aload_n 0, 1) := by decide +kernel
theorem dX7_join_13 : decode cX7_join 13 = .ok (.iconst 1, 1) := by decide +kernel
theorem dX7_join_14 : decode cX7_join 14 = .ok (.invokevirtual 55, 3) := by decide +kernel
theorem dX7_join_17 : decode cX7_join 17 = .ok (.ireturn, 1) := by decide +kernel
theorem dX7_join_18 : decode cX7_join 18 = .ok (.iload_n 2, 1) := by decide +kernel
theorem dX7_join_19 : decode cX7_join 19 = .ok (.invokestatic 116, 3) := by decide +kernel
theorem dX7_join_22 : decode cX7_join 22 = .ok (.ifCond .eq 12, 3) := by decide +kernel
theorem dX7_join_25 : decode cX7_join 25 = .ok (.iload_n 3, 1) := by decide +kernel
theorem dX7_join_26 : decode cX7_join 26 = .ok (.iconst 0, 1) := by decide +kernel
theorem dX7_join_27 : decode cX7_join 27 = .ok (.iconst 3, 1) := by decide +kernel
theorem dX7_join_28 : decode cX7_join 28 = .ok (.invokestatic 44, 3) := by decide +kernel
theorem dX7_join_31 : decode cX7_join 31 = .ok (.ifCond .ne 9, 3) := by decide +kernel
theorem dX7_join_34 : decode cX7_join 34 = .ok (.aload_n 0, 1) := by decide +kernel
theorem dX7_join_35 : decode cX7_join 35 = .ok (.iconst 2, 1) := by decide +kernel
theorem dX7_join_36 : decode cX7_join 36 = .ok (.invokevirtual 55, 3) := by decide +kernel
theorem dX7_join_39 : decode cX7_join 39 = .ok (.ireturn, 1) := by decide +kernel
theorem dX7_join_40 : decode cX7_join 40 = .ok (.aload_n 0, 1) := by decide +kernel
theorem dX7_join_41 : decode cX7_join 41 = .ok (.iload_n 1, 1) := by decide +kernel
theorem dX7_join_42 : decode cX7_join 42 = .ok (.invokevirtual 119, 3) := by decide +kernel
theorem dX7_join_45 : decode cX7_join 45 = .ok (.ifCond .ne 9, 3) := by decide +kernel
theorem dX7_join_48 : decode cX7_join 48 = .ok (.aload_n 0, 1) := by decide +kernel
theorem dX7_join_49 : decode cX7_join 49 = .ok (.iconst 3, 1) := by decide +kernel
theorem dX7_join_50 : decode cX7_join 50 = .ok (.invokevirtual 55, 3) := by decide +kernel
theorem dX7_join_53 : decode cX7_join 53 = .ok (.ireturn, 1) := by decide +kernel
theorem dX7_join_54 : decode cX7_join 54 = .ok (.aload_n 0, 1) := by decide +kernel
theorem dX7_join_55 : decode cX7_join 55 = .ok (.invokevirtual 67, 3) := by decide +kernel
theorem dX7_join_58 : decode cX7_join 58 = .ok (.aload_n 0, 1) := by decide +kernel
theorem dX7_join_59 : decode cX7_join 59 = .ok (.iload_n 1, 1) := by decide +kernel
theorem dX7_join_60 : decode cX7_join 60 = .ok (.iload_n 2, 1) := by decide +kernel
theorem dX7_join_61 : decode cX7_join 61 = .ok (.iload_n 3, 1) := by decide +kernel
theorem dX7_join_62 : decode cX7_join 62 = .ok (.invokevirtual 122, 3) := by decide +kernel
theorem dX7_join_65 : decode cX7_join 65 = .ok (.ireturn, 1) := by decide +kernel
theorem dX7_leave_0 : decode cX7_leave 0 = .ok (.aload_n 0, 1) := by decide +kernel
theorem dX7_leave_1 : decode cX7_leave 1 = .ok (.iconst 0, 1) := by decide +kernel
theorem dX7_leave_2 : decode cX7_leave 2 = .ok (.putfield 40, 3) := by decide +kernel
theorem dX7_leave_5 : decode cX7_leave 5 = .ok (.aload_n 0, 1) := by decide +kernel
theorem dX7_leave_6 : decode cX7_leave 6 = .ok (.iload_n 1, 1) := by decide +kernel
theorem dX7_leave_7 : decode cX7_leave 7 = .ok (.iload_n 2, 1) := by decide +kernel
theorem dX7_leave_8 : decode cX7_leave 8 = .ok (.invokevirtual 126, 3) := by decide +kernel
theorem dX7_leave_11 : decode cX7_leave 11 = .ok (.ifCond .ne 9, 3) := by decide +kernel
theorem dX7_leave_14 : decode cX7_leave 14 = .ok (.aload_n 0, 1) := by decide +kernel
theorem dX7_leave_15 : decode cX7_leave 15 = .ok (.iconst 1, 1) := by decide +kernel
theorem dX7_leave_16 : decode cX7_leave 16 = .ok (.invokevirtual 55, 3) := by decide +kernel
theorem dX7_leave_19 : decode cX7_leave 19 = .ok (.ireturn, 1) := by decide +kernel
theorem dX7_leave_20 : decode cX7_leave 20 = .ok (.aload_n 0, 1) := by decide +kernel
theorem dX7_leave_21 : decode cX7_leave 21 = .ok (.invokevirtual 67, 3) := by decide +kernel
theorem dX7_leave_24 : decode cX7_leave 24 = .ok (.aload_n 0, 1) := by decide +kernel
theorem dX7_leave_25 : decode cX7_leave 25 = .ok (.getfield 7, 3) := by decide +kernel
theorem dX7_leave_28 : decode cX7_leave 28 = .ok (.iconst 4, 1) := by decide +kernel
theorem dX7_leave_29 : decode cX7_leave 29 = .ok (.bipush 6, 2) := by decide +kernel
theorem dX7_leave_31 : decode cX7_leave 31 = .ok (.iload_n 1, 1) := by decide +kernel
theorem dX7_leave_32 : decode cX7_leave 32 = .ok (.imul, 1) := by decide +kernel
theorem dX7_leave_33 : decode cX7_leave 33 = .ok (.iadd, 1) := by decide +kernel
theorem dX7_leave_34 : decode cX7_leave 34 = .ok (.iload_n 2, 1) := by decide +kernel
theorem dX7_leave_35 : decode cX7_leave 35 = .ok (.iadd, 1) := by decide +kernel
theorem dX7_leave_36 : decode cX7_leave 36 = .ok (.iaload, 1) := by decide +kernel
theorem dX7_leave_37 : decode cX7_leave 37 = .ok (.istore_n 3, 1) := by decide +kernel
theorem dX7_leave_38 : decode cX7_leave 38 = .ok (.aload_n 0, 1) := by decide +kernel
theorem dX7_leave_39 : decode cX7_leave 39 = .ok (.iload_n 1, 1) := by decide +kernel
theorem dX7_leave_40 : decode cX7_leave 40 = .ok (.iload_n 2, 1) := by decide +kernel
theorem dX7_leave_41 : decode cX7_leave 41 = .ok (.invokevirtual 130, 3) := by decide +kernel
theorem dX7_leave_44 : decode cX7_leave 44 = .ok (.aload_n 0, 1) := by decide +kernel
theorem dX7_leave_45 : decode cX7_leave 45 = .ok (.getfield 7, 3) := by decide +kernel
theorem dX7_leave_48 : decode cX7_leave 48 = .ok (.bipush 79, 2) := by decide +kernel
theorem dX7_leave_50 : decode cX7_leave 50 = .ok (.dup2, 1) := by decide +kernel
theorem dX7_leave_51 : decode cX7_leave 51 = .ok (.iaload, 1) := by decide +kernel
theorem dX7_leave_52 : decode cX7_leave 52 = .ok (.iconst 1, 1) := by decide +kernel
theorem dX7_leave_53 : decode cX7_leave 53 = .ok (.iadd, 1) := by decide +kernel
theorem dX7_leave_54 : decode cX7_leave 54 = .ok (.iastore, 1) := by decide +kernel
theorem dX7_leave_55 : decode cX7_leave 55 = .ok (.iload_n 3, 1) := by decide +kernel
theorem dX7_leave_56 : decode cX7_leave 56 = .ok (.ireturn, 1) := by decide +kernel
theorem dX7_grow_0 : decode cX7_grow 0 = .ok (.aload_n 0, 1) := by decide +kernel
theorem dX7_grow_1 : decode cX7_grow 1 = .ok (.iconst 0, 1) := by decide +kernel
theorem dX7_grow_2 : decode cX7_grow 2 = .ok (.putfield 40, 3) := by decide +kernel
theorem dX7_grow_5 : decode cX7_grow 5 = .ok (.aload_n 0, 1) := by decide +kernel
theorem dX7_grow_6 : decode cX7_grow 6 = .ok (.iload_n 1, 1) := by decide +kernel
theorem dX7_grow_7 : decode cX7_grow 7 = .ok (.iload_n 2, 1) := by decide +kernel
theorem dX7_grow_8 : decode cX7_grow 8 = .ok (.invokevirtual 126, 3) := by decide +kernel
theorem dX7_grow_11 : decode cX7_grow 11 = .ok (.ifCond .ne 9, 3) := by decide +kernel
theorem dX7_grow_14 : decode cX7_grow 14 = .ok (.aload_n 0, 1) := by decide +kernel
theorem dX7_grow_15 : decode cX7_grow 15 = .ok (.iconst 1, 1) := by decide +kernel
theorem dX7_grow_16 : decode cX7_grow 16 = .ok (.invokevirtual 55, 3) := by decide +kernel
theorem dX7_grow_19 : decode cX7_grow 19 = .ok (.ireturn, 1) := by decide +kernel
theorem dX7_grow_20 : decode cX7_grow 20 = .ok (.iload_n 3, 1) := by decide +kernel
theorem dX7_grow_21 : decode cX7_grow 21 = .ok (.invokestatic 116, 3) := by decide +kernel
theorem dX7_grow_24 : decode cX7_grow 24 = .ok (.ifCond .ne 9, 3) := by decide +kernel
theorem dX7_grow_27 : decode cX7_grow 27 = .ok (.aload_n 0, 1) := by decide +kernel
theorem dX7_grow_28 : decode cX7_grow 28 = .ok (.iconst 2, 1) := by decide +kernel
theorem dX7_grow_29 : decode cX7_grow 29 = .ok (.invokevirtual 55, 3) := by decide +kernel
theorem dX7_grow_32 : decode cX7_grow 32 = .ok (.ireturn, 1) := by decide +kernel
theorem dX7_grow_33 : decode cX7_grow 33 = .ok (.aload_n 0, 1) := by decide +kernel
theorem dX7_grow_34 : decode cX7_grow 34 = .ok (.invokevirtual 67, 3) := by decide +kernel
theorem dX7_grow_37 : decode cX7_grow 37 = .ok (.aload_n 0, 1) := by decide +kernel
theorem dX7_grow_38 : decode cX7_grow 38 = .ok (.iload_n 1, 1) := by decide +kernel
theorem dX7_grow_39 : decode cX7_grow 39 = .ok (.iload_n 2, 1) := by decide +kernel
theorem dX7_grow_40 : decode cX7_grow 40 = .ok (.invokevirtual 77, 3) := by decide +kernel
theorem dX7_grow_43 : decode cX7_grow 43 = .ok (.istore 4, 2) := by decide +kernel
theorem dX7_grow_45 : decode cX7_grow 45 = .ok (.aload_n 0, 1) := by decide +kernel
theorem dX7_grow_46 : decode cX7_grow 46 = .ok (.getfield 7, 3) := by decide +kernel
theorem dX7_grow_49 : decode cX7_grow 49 = .ok (.bipush 28, 2) := by decide +kernel
theorem dX7_grow_51 : decode cX7_grow 51 = .ok (.bipush 6, 2) := by decide +kernel
theorem dX7_grow_53 : decode cX7_grow 53 = .ok (.iload_n 1, 1) := by decide +kernel
theorem dX7_grow_54 : decode cX7_grow 54 = .ok (.imul, 1) := by decide +kernel
theorem dX7_grow_55 : decode cX7_grow 55 = .ok (.iadd, 1) := by decide +kernel
theorem dX7_grow_56 : decode cX7_grow 56 = .ok (.iload_n 2, 1) := by decide +kernel
theorem dX7_grow_57 : decode cX7_grow 57 = .ok (.iadd, 1) := by decide +kernel
theorem dX7_grow_58 : decode cX7_grow 58 = .ok (.iload_n 3, 1) := by decide +kernel
theorem dX7_grow_59 : decode cX7_grow 59 = .ok (.iastore, 1) := by decide +kernel
theorem dX7_grow_60 : decode cX7_grow 60 = .ok (.iload 4, 2) := by decide +kernel
theorem dX7_grow_62 : decode cX7_grow 62 = .ok (.ireturn, 1) := by decide +kernel
theorem dX7_swap_0 : decode cX7_swap 0 = .ok (.aload_n 0, 1) := by decide +kernel
theorem dX7_swap_1 : decode cX7_swap 1 = .ok (.iconst 0, 1) := by decide +kernel
theorem dX7_swap_2 : decode cX7_swap 2 = .ok (.putfield 40, 3) := by decide +kernel
theorem dX7_swap_5 : decode cX7_swap 5 = .ok (.aload_n 0, 1) := by decide +kernel
theorem dX7_swap_6 : decode cX7_swap 6 = .ok (.iload_n 1, 1) := by decide +kernel
theorem dX7_swap_7 : decode cX7_swap 7 = .ok (.iload_n 2, 1) := by decide +kernel
theorem dX7_swap_8 : decode cX7_swap 8 = .ok (.invokevirtual 126, 3) := by decide +kernel
theorem dX7_swap_11 : decode cX7_swap 11 = .ok (.ifCond .eq 13, 3) := by decide +kernel
theorem dX7_swap_14 : decode cX7_swap 14 = .ok (.aload_n 0, 1) := by decide +kernel
theorem dX7_swap_15 : decode cX7_swap 15 = .ok (.iload_n 3, 1) := by decide +kernel
theorem dX7_swap_16 : decode cX7_swap 16 = .ok (.iload 4, 2) := by decide +kernel
theorem dX7_swap_18 : decode cX7_swap 18 = .ok (.invokevirtual 126, 3) := by decide +kernel
theorem dX7_swap_21 : decode cX7_swap 21 = .ok (.ifCond .ne 9, 3) := by decide +kernel
theorem dX7_swap_24 : decode cX7_swap 24 = .ok (.aload_n 0, 1) := by decide +kernel
theorem dX7_swap_25 : decode cX7_swap 25 = .ok (.iconst 1, 1) := by decide +kernel
theorem dX7_swap_26 : decode cX7_swap 26 = .ok (.invokevirtual 55, 3) := by decide +kernel
theorem dX7_swap_29 : decode cX7_swap 29 = .ok (.ireturn, 1) := by decide +kernel
theorem dX7_swap_30 : decode cX7_swap 30 = .ok (.aload_n 0, 1) := by decide +kernel
theorem dX7_swap_31 : decode cX7_swap 31 = .ok (.invokevirtual 67, 3) := by decide +kernel
theorem dX7_swap_34 : decode cX7_swap 34 = .ok (.aload_n 0, 1) := by decide +kernel
theorem dX7_swap_35 : decode cX7_swap 35 = .ok (.bipush 6, 2) := by decide +kernel
theorem dX7_swap_37 : decode cX7_swap 37 = .ok (.iload_n 1, 1) := by decide +kernel
theorem dX7_swap_38 : decode cX7_swap 38 = .ok (.imul, 1) := by decide +kernel
theorem dX7_swap_39 : decode cX7_swap 39 = .ok (.iload_n 2, 1) := by decide +kernel
theorem dX7_swap_40 : decode cX7_swap 40 = .ok (.iadd, 1) := by decide +kernel
theorem dX7_swap_41 : decode cX7_swap 41 = .ok (.bipush 6, 2) := by decide +kernel
theorem dX7_swap_43 : decode cX7_swap 43 = .ok (.iload_n 3, 1) := by decide +kernel
theorem dX7_swap_44 : decode cX7_swap 44 = .ok (.imul, 1) := by decide +kernel
theorem dX7_swap_45 : decode cX7_swap 45 = .ok (.iload 4, 2) := by decide +kernel
theorem dX7_swap_47 : decode cX7_swap 47 = .ok (.iadd, 1) := by decide +kernel
theorem dX7_swap_48 : decode cX7_swap 48 = .ok (.invokevirtual 110, 3) := by decide +kernel
theorem dX7_swap_51 : decode cX7_swap 51 = .ok (.aload_n 0, 1) := by decide +kernel
theorem dX7_swap_52 : decode cX7_swap 52 = .ok (.getfield 7, 3) := by decide +kernel
theorem dX7_swap_55 : decode cX7_swap 55 = .ok (.bipush 80, 2) := by decide +kernel
theorem dX7_swap_57 : decode cX7_swap 57 = .ok (.dup2, 1) := by decide +kernel
theorem dX7_swap_58 : decode cX7_swap 58 = .ok (.iaload, 1) := by decide +kernel
theorem dX7_swap_59 : decode cX7_swap 59 = .ok (.iconst 1, 1) := by decide +kernel
theorem dX7_swap_60 : decode cX7_swap 60 = .ok (.iadd, 1) := by decide +kernel
theorem dX7_swap_61 : decode cX7_swap 61 = .ok (.iastore, 1) := by decide +kernel
theorem dX7_swap_62 : decode cX7_swap 62 = .ok (.aload_n 0, 1) := by decide +kernel
theorem dX7_swap_63 : decode cX7_swap 63 = .ok (.invokevirtual 133, 3) := by decide +kernel
theorem dX7_swap_66 : decode cX7_swap 66 = .ok (.ireturn, 1) := by decide +kernel
theorem dX7_cross_0 : decode cX7_cross 0 = .ok (.aload_n 0, 1) := by decide +kernel
theorem dX7_cross_1 : decode cX7_cross 1 = .ok (.iconst 0, 1) := by decide +kernel
theorem dX7_cross_2 : decode cX7_cross 2 = .ok (.putfield 40, 3) := by decide +kernel
theorem dX7_cross_5 : decode cX7_cross 5 = .ok (.aload_n 0, 1) := by decide +kernel
theorem dX7_cross_6 : decode cX7_cross 6 = .ok (.iload_n 1, 1) := by decide +kernel
theorem dX7_cross_7 : decode cX7_cross 7 = .ok (.iload_n 2, 1) := by decide +kernel
theorem dX7_cross_8 : decode cX7_cross 8 = .ok (.invokevirtual 126, 3) := by decide +kernel
theorem dX7_cross_11 : decode cX7_cross 11 = .ok (.ifCond .eq 10, 3) := by decide +kernel
theorem dX7_cross_14 : decode cX7_cross 14 = .ok (.iload_n 3, 1) := by decide +kernel
theorem dX7_cross_15 : decode cX7_cross 15 = .ok (.invokestatic 48, 3) := by decide +kernel
theorem dX7_cross_18 : decode cX7_cross 18 = .ok (.ifCond .ne 9, 3) := by decide +kernel
theorem dX7_cross_21 : decode cX7_cross 21 = .ok (.aload_n 0, 1) := by decide +kernel
theorem dX7_cross_22 : decode cX7_cross 22 = .ok (.iconst 1, 1) := by decide +kernel
theorem dX7_cross_23 : decode cX7_cross 23 = .ok (.invokevirtual 55, 3) := by decide +kernel
theorem dX7_cross_26 : decode cX7_cross 26 = .ok (.ireturn, 1) := by decide +kernel
theorem dX7_cross_27 : decode cX7_cross 27 = .ok (.iload_n 1, 1) := by decide +kernel
theorem dX7_cross_28 : decode cX7_cross 28 = .ok (.iload_n 3, 1) := by decide +kernel
theorem dX7_cross_29 : decode cX7_cross 29 = .ok (.if_icmp .eq 16, 3) := by decide +kernel
theorem dX7_cross_32 : decode cX7_cross 32 = .ok (.aload_n 0, 1) := by decide +kernel
theorem dX7_cross_33 : decode cX7_cross 33 = .ok (.getfield 7, 3) := by decide +kernel
theorem dX7_cross_36 : decode cX7_cross 36 = .ok (.iconst 0, 1) := by decide +kernel
theorem dX7_cross_37 : decode cX7_cross 37 = .ok (.iload_n 3, 1) := by decide +kernel
theorem dX7_cross_38 : decode cX7_cross 38 = .ok (.iadd, 1) := by decide +kernel
theorem dX7_cross_39 : decode cX7_cross 39 = .ok (.iaload, 1) := by decide +kernel
theorem dX7_cross_40 : decode cX7_cross 40 = .ok (.bipush 6, 2) := by decide +kernel
theorem dX7_cross_42 : decode cX7_cross 42 = .ok (.if_icmp .ne 9, 3) := by decide +kernel
theorem dX7_cross_45 : decode cX7_cross 45 = .ok (.aload_n 0, 1) := by decide +kernel
theorem dX7_cross_46 : decode cX7_cross 46 = .ok (.iconst 2, 1) := by decide +kernel
theorem dX7_cross_47 : decode cX7_cross 47 = .ok (.invokevirtual 55, 3) := by decide +kernel
theorem dX7_cross_50 : decode cX7_cross 50 = .ok (.ireturn, 1) := by decide +kernel
theorem dX7_cross_51 : decode cX7_cross 51 = .ok (.aload_n 0, 1) := by decide +kernel
theorem dX7_cross_52 : decode cX7_cross 52 = .ok (.invokevirtual 67, 3) := by decide +kernel
theorem dX7_cross_55 : decode cX7_cross 55 = .ok (.aload_n 0, 1) := by decide +kernel
theorem dX7_cross_56 : decode cX7_cross 56 = .ok (.bipush 6, 2) := by decide +kernel
theorem dX7_cross_58 : decode cX7_cross 58 = .ok (.iload_n 1, 1) := by decide +kernel
theorem dX7_cross_59 : decode cX7_cross 59 = .ok (.imul, 1) := by decide +kernel
theorem dX7_cross_60 : decode cX7_cross 60 = .ok (.iload_n 2, 1) := by decide +kernel
theorem dX7_cross_61 : decode cX7_cross 61 = .ok (.iadd, 1) := by decide +kernel
theorem dX7_cross_62 : decode cX7_cross 62 = .ok (.bipush 6, 2) := by decide +kernel
theorem dX7_cross_64 : decode cX7_cross 64 = .ok (.iload_n 3, 1) := by decide +kernel
theorem dX7_cross_65 : decode cX7_cross 65 = .ok (.imul, 1) := by decide +kernel
theorem dX7_cross_66 : decode cX7_cross 66 = .ok (.aload_n 0, 1) := by decide +kernel
theorem dX7_cross_67 : decode cX7_cross 67 = .ok (.getfield 7, 3) := by decide +kernel
theorem dX7_cross_70 : decode cX7_cross 70 = .ok (.iconst 0, 1) := by decide +kernel
theorem dX7_cross_71 : decode cX7_cross 71 = .ok (.iload_n 3, 1) := by decide +kernel
theorem dX7_cross_72 : decode cX7_cross 72 = .ok (.iadd, 1) := by decide +kernel
theorem dX7_cross_73 : decode cX7_cross 73 = .ok (.iaload, 1) := by decide +kernel
theorem dX7_cross_74 : decode cX7_cross 74 = .ok (.iadd, 1) := by decide +kernel
theorem dX7_cross_75 : decode cX7_cross 75 = .ok (.invokevirtual 103, 3) := by decide +kernel
theorem dX7_cross_78 : decode cX7_cross 78 = .ok (.aload_n 0, 1) := by decide +kernel
theorem dX7_cross_79 : decode cX7_cross 79 = .ok (.getfield 7, 3) := by decide +kernel
theorem dX7_cross_82 : decode cX7_cross 82 = .ok (.iconst 0, 1) := by decide +kernel
theorem dX7_cross_83 : decode cX7_cross 83 = .ok (.iload_n 3, 1) := by decide +kernel
theorem dX7_cross_84 : decode cX7_cross 84 = .ok (.iadd, 1) := by decide +kernel
theorem dX7_cross_85 : decode cX7_cross 85 = .ok (.dup2, 1) := by decide +kernel
theorem dX7_cross_86 : decode cX7_cross 86 = .ok (.iaload, 1) := by decide +kernel
theorem dX7_cross_87 : decode cX7_cross 87 = .ok (.iconst 1, 1) := by decide +kernel
theorem dX7_cross_88 : decode cX7_cross 88 = .ok (.iadd, 1) := by decide +kernel
theorem dX7_cross_89 : decode cX7_cross 89 = .ok (.iastore, 1) := by decide +kernel
theorem dX7_cross_90 : decode cX7_cross 90 = .ok (.aload_n 0, 1) := by decide +kernel
theorem dX7_cross_91 : decode cX7_cross 91 = .ok (.iload_n 1, 1) := by decide +kernel
theorem dX7_cross_92 : decode cX7_cross 92 = .ok (.iload_n 2, 1) := by decide +kernel
theorem dX7_cross_93 : decode cX7_cross 93 = .ok (.invokevirtual 130, 3) := by decide +kernel
theorem dX7_cross_96 : decode cX7_cross 96 = .ok (.aload_n 0, 1) := by decide +kernel
theorem dX7_cross_97 : decode cX7_cross 97 = .ok (.getfield 7, 3) := by decide +kernel
theorem dX7_cross_100 : decode cX7_cross 100 = .ok (.iconst 0, 1) := by decide +kernel
theorem dX7_cross_101 : decode cX7_cross 101 = .ok (.iload_n 3, 1) := by decide +kernel
theorem dX7_cross_102 : decode cX7_cross 102 = .ok (.iadd, 1) := by decide +kernel
theorem dX7_cross_103 : decode cX7_cross 103 = .ok (.iaload, 1) := by decide +kernel
theorem dX7_cross_104 : decode cX7_cross 104 = .ok (.iconst 1, 1) := by decide +kernel
theorem dX7_cross_105 : decode cX7_cross 105 = .ok (.isub, 1) := by decide +kernel
theorem dX7_cross_106 : decode cX7_cross 106 = .ok (.ireturn, 1) := by decide +kernel
theorem dX7_turn_0 : decode cX7_turn 0 = .ok (.aload_n 0, 1) := by decide +kernel
theorem dX7_turn_1 : decode cX7_turn 1 = .ok (.iconst 0, 1) := by decide +kernel
theorem dX7_turn_2 : decode cX7_turn 2 = .ok (.putfield 40, 3) := by decide +kernel
theorem dX7_turn_5 : decode cX7_turn 5 = .ok (.iload_n 1, 1) := by decide +kernel
theorem dX7_turn_6 : decode cX7_turn 6 = .ok (.invokestatic 48, 3) := by decide +kernel
theorem dX7_turn_9 : decode cX7_turn 9 = .ok (.ifCond .ne 9, 3) := by decide +kernel
theorem dX7_turn_12 : decode cX7_turn 12 = .ok (.aload_n 0, 1) := by decide +kernel
theorem dX7_turn_13 : decode cX7_turn 13 = .ok (.iconst 1, 1) := by decide +kernel
theorem dX7_turn_14 : decode cX7_turn 14 = .ok (.invokevirtual 55, 3) := by decide +kernel
theorem dX7_turn_17 : decode cX7_turn 17 = .ok (.ireturn, 1) := by decide +kernel
theorem dX7_turn_18 : decode cX7_turn 18 = .ok (.aload_n 0, 1) := by decide +kernel
theorem dX7_turn_19 : decode cX7_turn 19 = .ok (.invokevirtual 67, 3) := by decide +kernel
theorem dX7_turn_22 : decode cX7_turn 22 = .ok (.aload_n 0, 1) := by decide +kernel
theorem dX7_turn_23 : decode cX7_turn 23 = .ok (.iload_n 1, 1) := by decide +kernel
theorem dX7_turn_24 : decode cX7_turn 24 = .ok (.invokevirtual 136, 3) := by decide +kernel
theorem dX7_turn_27 : decode cX7_turn 27 = .ok (.aload_n 0, 1) := by decide +kernel
theorem dX7_turn_28 : decode cX7_turn 28 = .ok (.invokevirtual 133, 3) := by decide +kernel
theorem dX7_turn_31 : decode cX7_turn 31 = .ok (.ireturn, 1) := by decide +kernel
theorem dX7_sort_0 : decode cX7_sort 0 = .ok (.aload_n 0, 1) := by decide +kernel
theorem dX7_sort_1 : decode cX7_sort 1 = .ok (.iconst 0, 1) := by decide +kernel
theorem dX7_sort_2 : decode cX7_sort 2 = .ok (.putfield 40, 3) := by decide +kernel
theorem dX7_sort_5 : decode cX7_sort 5 = .ok (.iload_n 1, 1) := by decide +kernel
theorem dX7_sort_6 : decode cX7_sort 6 = .ok (.invokestatic 48, 3) := by decide +kernel
theorem dX7_sort_9 : decode cX7_sort 9 = .ok (.ifCond .ne 9, 3) := by decide +kernel
theorem dX7_sort_12 : decode cX7_sort 12 = .ok (.aload_n 0, 1) := by decide +kernel
theorem dX7_sort_13 : decode cX7_sort 13 = .ok (.iconst 1, 1) := by decide +kernel
theorem dX7_sort_14 : decode cX7_sort 14 = .ok (.invokevirtual 55, 3) := by decide +kernel
theorem dX7_sort_17 : decode cX7_sort 17 = .ok (.ireturn, 1) := by decide +kernel
theorem dX7_sort_18 : decode cX7_sort 18 = .ok (.iload_n 2, 1) := by decide +kernel
theorem dX7_sort_19 : decode cX7_sort 19 = .ok (.iconst 0, 1) := by decide +kernel
theorem dX7_sort_20 : decode cX7_sort 20 = .ok (.iconst 2, 1) := by decide +kernel
theorem dX7_sort_21 : decode cX7_sort 21 = .ok (.invokestatic 44, 3) := by decide +kernel
theorem dX7_sort_24 : decode cX7_sort 24 = .ok (.ifCond .ne 9, 3) := by decide +kernel
theorem dX7_sort_27 : decode cX7_sort 27 = .ok (.aload_n 0, 1) := by decide +kernel
theorem dX7_sort_28 : decode cX7_sort 28 = .ok (.iconst 2, 1) := by decide +kernel
theorem dX7_sort_29 : decode cX7_sort 29 = .ok (.invokevirtual 55, 3) := by decide +kernel
theorem dX7_sort_32 : decode cX7_sort 32 = .ok (.ireturn, 1) := by decide +kernel
theorem dX7_sort_33 : decode cX7_sort 33 = .ok (.aload_n 0, 1) := by decide +kernel
theorem dX7_sort_34 : decode cX7_sort 34 = .ok (.invokevirtual 67, 3) := by decide +kernel
theorem dX7_sort_37 : decode cX7_sort 37 = .ok (.aload_n 0, 1) := by decide +kernel
theorem dX7_sort_38 : decode cX7_sort 38 = .ok (.iload_n 1, 1) := by decide +kernel
theorem dX7_sort_39 : decode cX7_sort 39 = .ok (.iload_n 2, 1) := by decide +kernel
theorem dX7_sort_40 : decode cX7_sort 40 = .ok (.invokevirtual 139, 3) := by decide +kernel
theorem dX7_sort_43 : decode cX7_sort 43 = .ok (.aload_n 0, 1) := by decide +kernel
theorem dX7_sort_44 : decode cX7_sort 44 = .ok (.iload_n 1, 1) := by decide +kernel
theorem dX7_sort_45 : decode cX7_sort 45 = .ok (.invokevirtual 142, 3) := by decide +kernel
theorem dX7_sort_48 : decode cX7_sort 48 = .ok (.ireturn, 1) := by decide +kernel
theorem dX7_set_0 : decode cX7_set 0 = .ok (.aload_n 0, 1) := by decide +kernel
theorem dX7_set_1 : decode cX7_set 1 = .ok (.iconst 0, 1) := by decide +kernel
theorem dX7_set_2 : decode cX7_set 2 = .ok (.putfield 40, 3) := by decide +kernel
theorem dX7_set_5 : decode cX7_set 5 = .ok (.iload_n 1, 1) := by decide +kernel
theorem dX7_set_6 : decode cX7_set 6 = .ok (.iconst 0, 1) := by decide +kernel
theorem dX7_set_7 : decode cX7_set 7 = .ok (.iconst 1, 1) := by decide +kernel
theorem dX7_set_8 : decode cX7_set 8 = .ok (.invokestatic 44, 3) := by decide +kernel
theorem dX7_set_11 : decode cX7_set 11 = .ok (.ifCond .ne 9, 3) := by decide +kernel
theorem dX7_set_14 : decode cX7_set 14 = .ok (.aload_n 0, 1) := by decide +kernel
theorem dX7_set_15 : decode cX7_set 15 = .ok (.iconst 1, 1) := by decide +kernel
theorem dX7_set_16 : decode cX7_set 16 = .ok (.invokevirtual 55, 3) := by decide +kernel
theorem dX7_set_19 : decode cX7_set 19 = .ok (.ireturn, 1) := by decide +kernel
theorem dX7_set_20 : decode cX7_set 20 = .ok (.iload_n 1, 1) := by decide +kernel
theorem dX7_set_21 : decode cX7_set 21 = .ok (.ifCond .ne 16, 3) := by decide +kernel
theorem dX7_set_24 : decode cX7_set 24 = .ok (.iload_n 2, 1) := by decide +kernel
theorem dX7_set_25 : decode cX7_set 25 = .ok (.iconst 1, 1) := by decide +kernel
theorem dX7_set_26 : decode cX7_set 26 = .ok (.bipush 6, 2) := by decide +kernel
theorem dX7_set_28 : decode cX7_set 28 = .ok (.invokestatic 44, 3) := by decide +kernel
theorem dX7_set_31 : decode cX7_set 31 = .ok (.ifCond .eq 15, 3) := by decide +kernel
theorem dX7_set_34 : decode cX7_set 34 = .ok (.goto 18, 3) := by decide +kernel
theorem dX7_set_37 : decode cX7_set 37 = .ok (.iload_n 2, 1) := by decide +kernel
theorem dX7_set_38 : decode cX7_set 38 = .ok (.iconst 0, 1) := by decide +kernel
theorem dX7_set_39 : decode cX7_set 39 = .ok (.iconst 1, 1) := by decide +kernel
theorem dX7_set_40 : decode cX7_set 40 = .ok (.invokestatic 44, 3) := by decide +kernel
theorem dX7_set_43 : decode cX7_set 43 = .ok (.ifCond .ne 9, 3) := by decide +kernel
theorem dX7_set_46 : decode cX7_set 46 = .ok (.aload_n 0, 1) := by decide +kernel
theorem dX7_set_47 : decode cX7_set 47 = .ok (.iconst 2, 1) := by decide +kernel
theorem dX7_set_48 : decode cX7_set 48 = .ok (.invokevirtual 55, 3) := by decide +kernel
theorem dX7_set_51 : decode cX7_set 51 = .ok (.ireturn, 1) := by decide +kernel
theorem dX7_set_52 : decode cX7_set 52 = .ok (.aload_n 0, 1) := by decide +kernel
theorem dX7_set_53 : decode cX7_set 53 = .ok (.invokevirtual 67, 3) := by decide +kernel
theorem dX7_set_56 : decode cX7_set 56 = .ok (.aload_n 0, 1) := by decide +kernel
theorem dX7_set_57 : decode cX7_set 57 = .ok (.getfield 7, 3) := by decide +kernel
theorem dX7_set_60 : decode cX7_set 60 = .ok (.bipush 76, 2) := by decide +kernel
theorem dX7_set_62 : decode cX7_set 62 = .ok (.iload_n 1, 1) := by decide +kernel
theorem dX7_set_63 : decode cX7_set 63 = .ok (.iadd, 1) := by decide +kernel
theorem dX7_set_64 : decode cX7_set 64 = .ok (.iaload, 1) := by decide +kernel
theorem dX7_set_65 : decode cX7_set 65 = .ok (.istore_n 3, 1) := by decide +kernel
theorem dX7_set_66 : decode cX7_set 66 = .ok (.aload_n 0, 1) := by decide +kernel
theorem dX7_set_67 : decode cX7_set 67 = .ok (.getfield 7, 3) := by decide +kernel
theorem dX7_set_70 : decode cX7_set 70 = .ok (.bipush 76, 2) := by decide +kernel
theorem dX7_set_72 : decode cX7_set 72 = .ok (.iload_n 1, 1) := by decide +kernel
theorem dX7_set_73 : decode cX7_set 73 = .ok (.iadd, 1) := by decide +kernel
theorem dX7_set_74 : decode cX7_set 74 = .ok (.iload_n 2, 1) := by decide +kernel
theorem dX7_set_75 : decode cX7_set 75 = .ok (.iastore, 1) := by decide +kernel
theorem dX7_set_76 : decode cX7_set 76 = .ok (.iload_n 3, 1) := by decide +kernel
theorem dX7_set_77 : decode cX7_set 77 = .ok (.ireturn, 1) := by decide +kernel
theorem dX7_append_0 : decode cX7_append 0 = .ok (.aload_n 0, 1) := by decide +kernel
theorem dX7_append_1 : decode cX7_append 1 = .ok (.iconst 0, 1) := by decide +kernel
theorem dX7_append_2 : decode cX7_append 2 = .ok (.putfield 40, 3) := by decide +kernel
theorem dX7_append_5 : decode cX7_append 5 = .ok (.iload_n 1, 1) := by decide +kernel
theorem dX7_append_6 : decode cX7_append 6 = .ok (.bipush 33, 2) := by decide +kernel
theorem dX7_append_8 : decode cX7_append 8 = .ok (.bipush 126, 2) := by decide +kernel
theorem dX7_append_10 : decode cX7_append 10 = .ok (.invokestatic 44, 3) := by decide +kernel
theorem dX7_append_13 : decode cX7_append 13 = .ok (.ifCond .ne 9, 3) := by decide +kernel
theorem dX7_append_16 : decode cX7_append 16 = .ok (.aload_n 0, 1) := by decide +kernel
theorem dX7_append_17 : decode cX7_append 17 = .ok (.iconst 1, 1) := by decide +kernel
theorem dX7_append_18 : decode cX7_append 18 = .ok (.invokevirtual 55, 3) := by decide +kernel
theorem dX7_append_21 : decode cX7_append 21 = .ok (.ireturn, 1) := by decide +kernel
theorem dX7_append_22 : decode cX7_append 22 = .ok (.aload_n 0, 1) := by decide +kernel
theorem dX7_append_23 : decode cX7_append 23 = .ok (.getfield 145, 3) := by decide +kernel
theorem dX7_append_26 : decode cX7_append 26 = .ok (.bipush 60, 2) := by decide +kernel
theorem dX7_append_28 : decode cX7_append 28 = .ok (.if_icmp .ne 9, 3) := by decide +kernel
theorem dX7_append_31 : decode cX7_append 31 = .ok (.aload_n 0, 1) := by decide +kernel
theorem dX7_append_32 : decode cX7_append 32 = .ok (.iconst 2, 1) := by decide +kernel
theorem dX7_append_33 : decode cX7_append 33 = .ok (.invokevirtual 55, 3) := by decide +kernel
theorem dX7_append_36 : decode cX7_append 36 = .ok (.ireturn, 1) := by decide +kernel
theorem dX7_append_37 : decode cX7_append 37 = .ok (.aload_n 0, 1) := by decide +kernel
theorem dX7_append_38 : decode cX7_append 38 = .ok (.getfield 25, 3) := by decide +kernel
theorem dX7_append_41 : decode cX7_append 41 = .ok (.aload_n 0, 1) := by decide +kernel
theorem dX7_append_42 : decode cX7_append 42 = .ok (.getfield 145, 3) := by decide +kernel
theorem dX7_append_45 : decode cX7_append 45 = .ok (.iload_n 1, 1) := by decide +kernel
theorem dX7_append_46 : decode cX7_append 46 = .ok (.iastore, 1) := by decide +kernel
theorem dX7_append_47 : decode cX7_append 47 = .ok (.aload_n 0, 1) := by decide +kernel
theorem dX7_append_48 : decode cX7_append 48 = .ok (.dup, 1) := by decide +kernel
theorem dX7_append_49 : decode cX7_append 49 = .ok (.getfield 145, 3) := by decide +kernel
theorem dX7_append_52 : decode cX7_append 52 = .ok (.iconst 1, 1) := by decide +kernel
theorem dX7_append_53 : decode cX7_append 53 = .ok (.iadd, 1) := by decide +kernel
theorem dX7_append_54 : decode cX7_append 54 = .ok (.putfield 145, 3) := by decide +kernel
theorem dX7_append_57 : decode cX7_append 57 = .ok (.aload_n 0, 1) := by decide +kernel
theorem dX7_append_58 : decode cX7_append 58 = .ok (.getfield 145, 3) := by decide +kernel
theorem dX7_append_61 : decode cX7_append 61 = .ok (.ireturn, 1) := by decide +kernel
theorem dX7_clearBuffer_0 : decode cX7_clearBuffer 0 = .ok (.aload_n 0, 1) := by decide +kernel
theorem dX7_clearBuffer_1 : decode cX7_clearBuffer 1 = .ok (.iconst 0, 1) := by decide +kernel
theorem dX7_clearBuffer_2 : decode cX7_clearBuffer 2 = .ok (.putfield 40, 3) := by decide +kernel
theorem dX7_clearBuffer_5 : decode cX7_clearBuffer 5 = .ok (.aload_n 0, 1) := by decide +kernel
theorem dX7_clearBuffer_6 : decode cX7_clearBuffer 6 = .ok (.getfield 145, 3) := by decide +kernel
theorem dX7_clearBuffer_9 : decode cX7_clearBuffer 9 = .ok (.istore_n 1, 1) := by decide +kernel
theorem dX7_clearBuffer_10 : decode cX7_clearBuffer 10 = .ok (.aload_n 0, 1) := by decide +kernel
theorem dX7_clearBuffer_11 : decode cX7_clearBuffer 11 = .ok (.iconst 0, 1) := by decide +kernel
theorem dX7_clearBuffer_12 : decode cX7_clearBuffer 12 = .ok (.putfield 145, 3) := by decide +kernel
theorem dX7_clearBuffer_15 : decode cX7_clearBuffer 15 = .ok (.iload_n 1, 1) := by decide +kernel
theorem dX7_clearBuffer_16 : decode cX7_clearBuffer 16 = .ok (.ireturn, 1) := by decide +kernel
theorem dX7_isAt_0 : decode cX7_isAt 0 = .ok (.aload_n 0, 1) := by decide +kernel
theorem dX7_isAt_1 : decode cX7_isAt 1 = .ok (.getfield 148, 3) := by decide +kernel
theorem dX7_isAt_4 : decode cX7_isAt 4 = .ok (.aload_n 0, 1) := by decide +kernel
theorem dX7_isAt_5 : decode cX7_isAt 5 = .ok (.getfield 145, 3) := by decide +kernel
theorem dX7_isAt_8 : decode cX7_isAt 8 = .ok (.if_icmp .ge 24, 3) := by decide +kernel
theorem dX7_isAt_11 : decode cX7_isAt 11 = .ok (.aload_n 0, 1) := by decide +kernel
theorem dX7_isAt_12 : decode cX7_isAt 12 = .ok (.getfield 25, 3) := by decide +kernel
theorem dX7_isAt_15 : decode cX7_isAt 15 = .ok (.aload_n 0, 1) := by decide +kernel
theorem dX7_isAt_16 : decode cX7_isAt 16 = .ok (.getfield 148, 3) := by decide +kernel
theorem dX7_isAt_19 : decode cX7_isAt 19 = .ok (.iaload, 1) := by decide +kernel
theorem dX7_isAt_20 : decode cX7_isAt 20 = .ok (.iload_n 1, 1) := by decide +kernel
theorem dX7_isAt_21 : decode cX7_isAt 21 = .ok (.iload_n 2, 1) := by decide +kernel
theorem dX7_isAt_22 : decode cX7_isAt 22 = .ok (.invokestatic 44, 3) := by decide +kernel
theorem dX7_isAt_25 : decode cX7_isAt 25 = .ok (.ifCond .eq 7, 3) := by decide +kernel
theorem dX7_isAt_28 : decode cX7_isAt 28 = .ok (.iconst 1, 1) := by decide +kernel
theorem dX7_isAt_29 : decode cX7_isAt 29 = .ok (.goto 4, 3) := by decide +kernel
theorem dX7_isAt_32 : decode cX7_isAt 32 = .ok (.iconst 0, 1) := by decide +kernel
theorem dX7_isAt_33 : decode cX7_isAt 33 = .ok (.ireturn, 1) := by decide +kernel
theorem dX7_takes_0 : decode cX7_takes 0 = .ok (.aload_n 0, 1) := by decide +kernel
theorem dX7_takes_1 : decode cX7_takes 1 = .ok (.iload_n 1, 1) := by decide +kernel
theorem dX7_takes_2 : decode cX7_takes 2 = .ok (.iload_n 2, 1) := by decide +kernel
theorem dX7_takes_3 : decode cX7_takes 3 = .ok (.invokevirtual 151, 3) := by decide +kernel
theorem dX7_takes_6 : decode cX7_takes 6 = .ok (.istore_n 3, 1) := by decide +kernel
theorem dX7_takes_7 : decode cX7_takes 7 = .ok (.aload_n 0, 1) := by decide +kernel
theorem dX7_takes_8 : decode cX7_takes 8 = .ok (.dup, 1) := by decide +kernel
theorem dX7_takes_9 : decode cX7_takes 9 = .ok (.getfield 148, 3) := by decide +kernel
theorem dX7_takes_12 : decode cX7_takes 12 = .ok (.iload_n 3, 1) := by decide +kernel
theorem dX7_takes_13 : decode cX7_takes 13 = .ok (.ifCond .eq 7, 3) := by decide +kernel
theorem dX7_takes_16 : decode cX7_takes 16 = .ok (.iconst 1, 1) := by decide +kernel
theorem dX7_takes_17 : decode cX7_takes 17 = .ok (.goto 4, 3) := by decide +kernel
theorem dX7_takes_20 : decode cX7_takes 20 = .ok (.iconst 0, 1) := by decide +kernel
theorem dX7_takes_21 : decode cX7_takes 21 = .ok (.iadd, 1) := by decide +kernel
theorem dX7_takes_22 : decode cX7_takes 22 = .ok (.putfield 148, 3) := by decide +kernel
theorem dX7_takes_25 : decode cX7_takes 25 = .ok (.iload_n 3, 1) := by decide +kernel
theorem dX7_takes_26 : decode cX7_takes 26 = .ok (.ireturn, 1) := by decide +kernel
theorem dX7_takesSign_0 : decode cX7_takesSign 0 = .ok (.aload_n 0, 1) := by decide +kernel
theorem dX7_takesSign_1 : decode cX7_takesSign 1 = .ok (.iload_n 1, 1) := by decide +kernel
theorem dX7_takesSign_2 : decode cX7_takesSign 2 = .ok (.iload_n 1, 1) := by decide +kernel
theorem dX7_takesSign_3 : decode cX7_takesSign 3 = .ok (.invokevirtual 154, 3) := by decide +kernel
theorem dX7_takesSign_6 : decode cX7_takesSign 6 = .ok (.ireturn, 1) := by decide +kernel
theorem dX7_takesWord_0 : decode cX7_takesWord 0 = .ok (.aload_n 0, 1) := by decide +kernel
theorem dX7_takesWord_1 : decode cX7_takesWord 1 = .ok (.iload_n 1, 1) := by decide +kernel
theorem dX7_takesWord_2 : decode cX7_takesWord 2 = .ok (.invokevirtual 157, 3) := by decide +kernel
theorem dX7_takesWord_5 : decode cX7_takesWord 5 = .ok (.ifCond .eq 27, 3) := by decide +kernel
theorem dX7_takesWord_8 : decode cX7_takesWord 8 = .ok (.aload_n 0, 1) := by decide +kernel
theorem dX7_takesWord_9 : decode cX7_takesWord 9 = .ok (.iload_n 2, 1) := by decide +kernel
theorem dX7_takesWord_10 : decode cX7_takesWord 10 = .ok (.invokevirtual 157, 3) := by decide +kernel
theorem dX7_takesWord_13 : decode cX7_takesWord 13 = .ok (.ifCond .eq 19, 3) := by decide +kernel
theorem dX7_takesWord_16 : decode cX7_takesWord 16 = .ok (.iload_n 3, 1) := by decide +kernel
theorem dX7_takesWord_17 : decode cX7_takesWord 17 = .ok (.ifCond .eq 11, 3) := by decide +kernel
theorem dX7_takesWord_20 : decode cX7_takesWord 20 = .ok (.aload_n 0, 1) := by decide +kernel
theorem dX7_takesWord_21 : decode cX7_takesWord 21 = .ok (.iload_n 3, 1) := by decide +kernel
theorem dX7_takesWord_22 : decode cX7_takesWord 22 = .ok (.invokevirtual 157, 3) := by decide +kernel
theorem dX7_takesWord_25 : decode cX7_takesWord 25 = .ok (.ifCond .eq 7, 3) := by decide +kernel
theorem dX7_takesWord_28 : decode cX7_takesWord 28 = .ok (.iconst 1, 1) := by decide +kernel
theorem dX7_takesWord_29 : decode cX7_takesWord 29 = .ok (.goto 4, 3) := by decide +kernel
theorem dX7_takesWord_32 : decode cX7_takesWord 32 = .ok (.iconst 0, 1) := by decide +kernel
theorem dX7_takesWord_33 : decode cX7_takesWord 33 = .ok (.ireturn, 1) := by decide +kernel
theorem dX7_readWord_0 : decode cX7_readWord 0 = .ok (.iload_n 1, 1) := by decide +kernel
theorem dX7_readWord_1 : decode cX7_readWord 1 = .ok (.tableswitch 157 104 118 #[118, 157, 75, 157, 108, 157, 157, 157, 157, 157, 157, 86, 97, 157, 129], 75) := by decide +kernel
theorem dX7_readWord_76 : decode cX7_readWord 76 = .ok (.aload_n 0, 1) := by decide +kernel
theorem dX7_readWord_77 : decode cX7_readWord 77 = .ok (.bipush 111, 2) := by decide +kernel
theorem dX7_readWord_79 : decode cX7_readWord 79 = .ok (.bipush 105, 2) := by decide +kernel
theorem dX7_readWord_81 : decode cX7_readWord 81 = .ok (.bipush 110, 2) := by decide +kernel
theorem dX7_readWord_83 : decode cX7_readWord 83 = .ok (.invokevirtual 160, 3) := by decide +kernel
theorem dX7_readWord_86 : decode cX7_readWord 86 = .ok (.ireturn, 1) := by decide +kernel
theorem dX7_readWord_87 : decode cX7_readWord 87 = .ok (.aload_n 0, 1) := by decide +kernel
theorem dX7_readWord_88 : decode cX7_readWord 88 = .ok (.bipush 119, 2) := by decide +kernel
theorem dX7_readWord_90 : decode cX7_readWord 90 = .ok (.bipush 97, 2) := by decide +kernel
theorem dX7_readWord_92 : decode cX7_readWord 92 = .ok (.bipush 112, 2) := by decide +kernel
theorem dX7_readWord_94 : decode cX7_readWord 94 = .ok (.invokevirtual 160, 3) := by decide +kernel
theorem dX7_readWord_97 : decode cX7_readWord 97 = .ok (.ireturn, 1) := by decide +kernel
theorem dX7_readWord_98 : decode cX7_readWord 98 = .ok (.aload_n 0, 1) := by decide +kernel
theorem dX7_readWord_99 : decode cX7_readWord 99 = .ok (.bipush 117, 2) := by decide +kernel
theorem dX7_readWord_101 : decode cX7_readWord 101 = .ok (.bipush 114, 2) := by decide +kernel
theorem dX7_readWord_103 : decode cX7_readWord 103 = .ok (.bipush 110, 2) := by decide +kernel
theorem dX7_readWord_105 : decode cX7_readWord 105 = .ok (.invokevirtual 160, 3) := by decide +kernel
theorem dX7_readWord_108 : decode cX7_readWord 108 = .ok (.ireturn, 1) := by decide +kernel
theorem dX7_readWord_109 : decode cX7_readWord 109 = .ok (.aload_n 0, 1) := by decide +kernel
theorem dX7_readWord_110 : decode cX7_readWord 110 = .ok (.bipush 111, 2) := by decide +kernel
theorem dX7_readWord_112 : decode cX7_readWord 112 = .ok (.bipush 119, 2) := by decide +kernel
theorem dX7_readWord_114 : decode cX7_readWord 114 = .ok (.iconst 0, 1) := by decide +kernel
theorem dX7_readWord_115 : decode cX7_readWord 115 = .ok (.invokevirtual 160, 3) := by decide +kernel
theorem dX7_readWord_118 : decode cX7_readWord 118 = .ok (.ireturn, 1) := by decide +kernel
theorem dX7_readWord_119 : decode cX7_readWord 119 = .ok (.aload_n 0, 1) := by decide +kernel
theorem dX7_readWord_120 : decode cX7_readWord 120 = .ok (.bipush 105, 2) := by decide +kernel
theorem dX7_readWord_122 : decode cX7_readWord 122 = .ok (.bipush 103, 2) := by decide +kernel
theorem dX7_readWord_124 : decode cX7_readWord 124 = .ok (.bipush 104, 2) := by decide +kernel
theorem dX7_readWord_126 : decode cX7_readWord 126 = .ok (.invokevirtual 160, 3) := by decide +kernel
theorem dX7_readWord_129 : decode cX7_readWord 129 = .ok (.ireturn, 1) := by decide +kernel
theorem dX7_readWord_130 : decode cX7_readWord 130 = .ok (.aload_n 0, 1) := by decide +kernel
theorem dX7_readWord_131 : decode cX7_readWord 131 = .ok (.bipush 111, 2) := by decide +kernel
theorem dX7_readWord_133 : decode cX7_readWord 133 = .ok (.bipush 105, 2) := by decide +kernel
theorem dX7_readWord_135 : decode cX7_readWord 135 = .ok (.bipush 99, 2) := by decide +kernel
theorem dX7_readWord_137 : decode cX7_readWord 137 = .ok (.invokevirtual 160, 3) := by decide +kernel
theorem dX7_readWord_140 : decode cX7_readWord 140 = .ok (.ifCond .eq 16, 3) := by decide +kernel
theorem dX7_readWord_143 : decode cX7_readWord 143 = .ok (.aload_n 0, 1) := by decide +kernel
theorem dX7_readWord_144 : decode cX7_readWord 144 = .ok (.bipush 101, 2) := by decide +kernel
theorem dX7_readWord_146 : decode cX7_readWord 146 = .ok (.invokevirtual 157, 3) := by decide +kernel
theorem dX7_readWord_149 : decode cX7_readWord 149 = .ok (.ifCond .eq 7, 3) := by decide +kernel
theorem dX7_readWord_152 : decode cX7_readWord 152 = .ok (.iconst 1, 1) := by decide +kernel
theorem dX7_readWord_153 : decode cX7_readWord 153 = .ok (.goto 4, 3) := by decide +kernel
theorem dX7_readWord_156 : decode cX7_readWord 156 = .ok (.iconst 0, 1) := by decide +kernel
theorem dX7_readWord_157 : decode cX7_readWord 157 = .ok (.ireturn, 1) := by decide +kernel
theorem dX7_readWord_158 : decode cX7_readWord 158 = .ok (.iconst 0, 1) := by decide +kernel
theorem dX7_readWord_159 : decode cX7_readWord 159 = .ok (.ireturn, 1) := by decide +kernel
theorem dX7_digit_0 : decode cX7_digit 0 = .ok (.aload_n 0, 1) := by decide +kernel
theorem dX7_digit_1 : decode cX7_digit 1 = .ok (.getfield 25, 3) := by decide +kernel
theorem dX7_digit_4 : decode cX7_digit 4 = .ok (.aload_n 0, 1) := by decide +kernel
theorem dX7_digit_5 : decode cX7_digit 5 = .ok (.getfield 148, 3) := by decide +kernel
theorem dX7_digit_8 : decode cX7_digit 8 = .ok (.iload_n 1, 1) := by decide +kernel
theorem dX7_digit_9 : decode cX7_digit 9 = .ok (.isub, 1) := by decide +kernel
theorem dX7_digit_10 : decode cX7_digit 10 = .ok (.iaload, 1) := by decide +kernel
theorem dX7_digit_11 : decode cX7_digit 11 = .ok (.bipush 48, 2) := by decide +kernel
theorem dX7_digit_13 : decode cX7_digit 13 = .ok (.isub, 1) := by decide +kernel
theorem dX7_digit_14 : decode cX7_digit 14 = .ok (.ireturn, 1) := by decide +kernel
theorem dX7_readHeight_0 : decode cX7_readHeight 0 = .ok (.aload_n 0, 1) := by decide +kernel
theorem dX7_readHeight_1 : decode cX7_readHeight 1 = .ok (.bipush 49, 2) := by decide +kernel
theorem dX7_readHeight_3 : decode cX7_readHeight 3 = .ok (.bipush 50, 2) := by decide +kernel
theorem dX7_readHeight_5 : decode cX7_readHeight 5 = .ok (.invokevirtual 154, 3) := by decide +kernel
theorem dX7_readHeight_8 : decode cX7_readHeight 8 = .ok (.ifCond .ne 5, 3) := by decide +kernel
theorem dX7_readHeight_11 : decode cX7_readHeight 11 = .ok (.iconst 0, 1) := by decide +kernel
theorem dX7_readHeight_12 : decode cX7_readHeight 12 = .ok (.ireturn, 1) := by decide +kernel
theorem dX7_readHeight_13 : decode cX7_readHeight 13 = .ok (.aload_n 0, 1) := by decide +kernel
theorem dX7_readHeight_14 : decode cX7_readHeight 14 = .ok (.iconst 1, 1) := by decide +kernel
theorem dX7_readHeight_15 : decode cX7_readHeight 15 = .ok (.invokevirtual 163, 3) := by decide +kernel
theorem dX7_readHeight_18 : decode cX7_readHeight 18 = .ok (.iconst 2, 1) := by decide +kernel
theorem dX7_readHeight_19 : decode cX7_readHeight 19 = .ok (.if_icmp .ne 7, 3) := by decide +kernel
theorem dX7_readHeight_22 : decode cX7_readHeight 22 = .ok (.iconst 1, 1) := by decide +kernel
theorem dX7_readHeight_23 : decode cX7_readHeight 23 = .ok (.goto 4, 3) := by decide +kernel
theorem dX7_readHeight_26 : decode cX7_readHeight 26 = .ok (.iconst 0, 1) := by decide +kernel
theorem dX7_readHeight_27 : decode cX7_readHeight 27 = .ok (.istore_n 1, 1) := by decide +kernel
theorem dX7_readHeight_28 : decode cX7_readHeight 28 = .ok (.aload_n 0, 1) := by decide +kernel
theorem dX7_readHeight_29 : decode cX7_readHeight 29 = .ok (.bipush 48, 2) := by decide +kernel
theorem dX7_readHeight_31 : decode cX7_readHeight 31 = .ok (.iload_n 1, 1) := by decide +kernel
theorem dX7_readHeight_32 : decode cX7_readHeight 32 = .ok (.ifCond .eq 8, 3) := by decide +kernel
theorem dX7_readHeight_35 : decode cX7_readHeight 35 = .ok (.bipush 50, 2) := by decide +kernel
theorem dX7_readHeight_37 : decode cX7_readHeight 37 = .ok (.goto 5, 3) := by decide +kernel
theorem dX7_readHeight_40 : decode cX7_readHeight 40 = .ok (.bipush 57, 2) := by decide +kernel
theorem dX7_readHeight_42 : decode cX7_readHeight 42 = .ok (.invokevirtual 154, 3) := by decide +kernel
theorem dX7_readHeight_45 : decode cX7_readHeight 45 = .ok (.ifCond .ne 5, 3) := by decide +kernel
theorem dX7_readHeight_48 : decode cX7_readHeight 48 = .ok (.iconst 0, 1) := by decide +kernel
theorem dX7_readHeight_49 : decode cX7_readHeight 49 = .ok (.ireturn, 1) := by decide +kernel
theorem dX7_readHeight_50 : decode cX7_readHeight 50 = .ok (.iload_n 1, 1) := by decide +kernel
theorem dX7_readHeight_51 : decode cX7_readHeight 51 = .ok (.ifCond .eq 16, 3) := by decide +kernel
theorem dX7_readHeight_54 : decode cX7_readHeight 54 = .ok (.aload_n 0, 1) := by decide +kernel
theorem dX7_readHeight_55 : decode cX7_readHeight 55 = .ok (.iconst 1, 1) := by decide +kernel
theorem dX7_readHeight_56 : decode cX7_readHeight 56 = .ok (.invokevirtual 163, 3) := by decide +kernel
theorem dX7_readHeight_59 : decode cX7_readHeight 59 = .ok (.iconst 2, 1) := by decide +kernel
theorem dX7_readHeight_60 : decode cX7_readHeight 60 = .ok (.if_icmp .ne 7, 3) := by decide +kernel
theorem dX7_readHeight_63 : decode cX7_readHeight 63 = .ok (.iconst 1, 1) := by decide +kernel
theorem dX7_readHeight_64 : decode cX7_readHeight 64 = .ok (.goto 4, 3) := by decide +kernel
theorem dX7_readHeight_67 : decode cX7_readHeight 67 = .ok (.iconst 0, 1) := by decide +kernel
theorem dX7_readHeight_68 : decode cX7_readHeight 68 = .ok (.istore_n 2, 1) := by decide +kernel
theorem dX7_readHeight_69 : decode cX7_readHeight 69 = .ok (.aload_n 0, 1) := by decide +kernel
theorem dX7_readHeight_70 : decode cX7_readHeight 70 = .ok (.bipush 48, 2) := by decide +kernel
theorem dX7_readHeight_72 : decode cX7_readHeight 72 = .ok (.iload_n 2, 1) := by decide +kernel
theorem dX7_readHeight_73 : decode cX7_readHeight 73 = .ok (.ifCond .eq 8, 3) := by decide +kernel
theorem dX7_readHeight_76 : decode cX7_readHeight 76 = .ok (.bipush 48, 2) := by decide +kernel
theorem dX7_readHeight_78 : decode cX7_readHeight 78 = .ok (.goto 5, 3) := by decide +kernel
theorem dX7_readHeight_81 : decode cX7_readHeight 81 = .ok (.bipush 57, 2) := by decide +kernel
theorem dX7_readHeight_83 : decode cX7_readHeight 83 = .ok (.invokevirtual 154, 3) := by decide +kernel
theorem dX7_readHeight_86 : decode cX7_readHeight 86 = .ok (.ifCond .ne 5, 3) := by decide +kernel
theorem dX7_readHeight_89 : decode cX7_readHeight 89 = .ok (.iconst 0, 1) := by decide +kernel
theorem dX7_readHeight_90 : decode cX7_readHeight 90 = .ok (.ireturn, 1) := by decide +kernel
theorem dX7_readHeight_91 : decode cX7_readHeight 91 = .ok (.aload_n 0, 1) := by decide +kernel
theorem dX7_readHeight_92 : decode cX7_readHeight 92 = .ok (.getfield 34, 3) := by decide +kernel
theorem dX7_readHeight_95 : decode cX7_readHeight 95 = .ok (.aload_n 0, 1) := by decide +kernel
theorem dX7_readHeight_96 : decode cX7_readHeight 96 = .ok (.getfield 166, 3) := by decide +kernel
theorem dX7_readHeight_99 : decode cX7_readHeight 99 = .ok (.bipush 100, 2) := by decide +kernel
theorem dX7_readHeight_101 : decode cX7_readHeight 101 = .ok (.aload_n 0, 1) := by decide +kernel
theorem dX7_readHeight_102 : decode cX7_readHeight 102 = .ok (.iconst 3, 1) := by decide +kernel
theorem dX7_readHeight_103 : decode cX7_readHeight 103 = .ok (.invokevirtual 163, 3) := by decide +kernel
theorem dX7_readHeight_106 : decode cX7_readHeight 106 = .ok (.imul, 1) := by decide +kernel
theorem dX7_readHeight_107 : decode cX7_readHeight 107 = .ok (.bipush 10, 2) := by decide +kernel
theorem dX7_readHeight_109 : decode cX7_readHeight 109 = .ok (.aload_n 0, 1) := by decide +kernel
theorem dX7_readHeight_110 : decode cX7_readHeight 110 = .ok (.iconst 2, 1) := by decide +kernel
theorem dX7_readHeight_111 : decode cX7_readHeight 111 = .ok (.invokevirtual 163, 3) := by decide +kernel
theorem dX7_readHeight_114 : decode cX7_readHeight 114 = .ok (.imul, 1) := by decide +kernel
theorem dX7_readHeight_115 : decode cX7_readHeight 115 = .ok (.iadd, 1) := by decide +kernel
theorem dX7_readHeight_116 : decode cX7_readHeight 116 = .ok (.aload_n 0, 1) := by decide +kernel
theorem dX7_readHeight_117 : decode cX7_readHeight 117 = .ok (.iconst 1, 1) := by decide +kernel
theorem dX7_readHeight_118 : decode cX7_readHeight 118 = .ok (.invokevirtual 163, 3) := by decide +kernel
theorem dX7_readHeight_121 : decode cX7_readHeight 121 = .ok (.iadd, 1) := by decide +kernel
theorem dX7_readHeight_122 : decode cX7_readHeight 122 = .ok (.iastore, 1) := by decide +kernel
theorem dX7_readHeight_123 : decode cX7_readHeight 123 = .ok (.iconst 1, 1) := by decide +kernel
theorem dX7_readHeight_124 : decode cX7_readHeight 124 = .ok (.ireturn, 1) := by decide +kernel
theorem dX7_readVoice_0 : decode cX7_readVoice 0 = .ok (.aload_n 0, 1) := by decide +kernel
theorem dX7_readVoice_1 : decode cX7_readVoice 1 = .ok (.getfield 148, 3) := by decide +kernel
theorem dX7_readVoice_4 : decode cX7_readVoice 4 = .ok (.aload_n 0, 1) := by decide +kernel
theorem dX7_readVoice_5 : decode cX7_readVoice 5 = .ok (.getfield 145, 3) := by decide +kernel
theorem dX7_readVoice_8 : decode cX7_readVoice 8 = .ok (.if_icmp .ge 15, 3) := by decide +kernel
theorem dX7_readVoice_11 : decode cX7_readVoice 11 = .ok (.aload_n 0, 1) := by decide +kernel
theorem dX7_readVoice_12 : decode cX7_readVoice 12 = .ok (.getfield 25, 3) := by decide +kernel
theorem dX7_readVoice_15 : decode cX7_readVoice 15 = .ok (.aload_n 0, 1) := by decide +kernel
theorem dX7_readVoice_16 : decode cX7_readVoice 16 = .ok (.getfield 148, 3) := by decide +kernel
theorem dX7_readVoice_19 : decode cX7_readVoice 19 = .ok (.iaload, 1) := by decide +kernel
theorem dX7_readVoice_20 : decode cX7_readVoice 20 = .ok (.goto 4, 3) := by decide +kernel
theorem dX7_readVoice_23 : decode cX7_readVoice 23 = .ok (.iconst 0, 1) := by decide +kernel
theorem dX7_readVoice_24 : decode cX7_readVoice 24 = .ok (.istore_n 1, 1) := by decide +kernel
theorem dX7_readVoice_25 : decode cX7_readVoice 25 = .ok (.aload_n 0, 1) := by decide +kernel
theorem dX7_readVoice_26 : decode cX7_readVoice 26 = .ok (.getfield 37, 3) := by decide +kernel
theorem dX7_readVoice_29 : decode cX7_readVoice 29 = .ok (.aload_n 0, 1) := by decide +kernel
theorem dX7_readVoice_30 : decode cX7_readVoice 30 = .ok (.getfield 166, 3) := by decide +kernel
theorem dX7_readVoice_33 : decode cX7_readVoice 33 = .ok (.iload_n 1, 1) := by decide +kernel
theorem dX7_readVoice_34 : decode cX7_readVoice 34 = .ok (.bipush 98, 2) := by decide +kernel
theorem dX7_readVoice_36 : decode cX7_readVoice 36 = .ok (.if_icmp .ne 7, 3) := by decide +kernel
theorem dX7_readVoice_39 : decode cX7_readVoice 39 = .ok (.iconst 0, 1) := by decide +kernel
theorem dX7_readVoice_40 : decode cX7_readVoice 40 = .ok (.goto 34, 3) := by decide +kernel
theorem dX7_readVoice_43 : decode cX7_readVoice 43 = .ok (.iload_n 1, 1) := by decide +kernel
theorem dX7_readVoice_44 : decode cX7_readVoice 44 = .ok (.bipush 116, 2) := by decide +kernel
theorem dX7_readVoice_46 : decode cX7_readVoice 46 = .ok (.if_icmp .ne 7, 3) := by decide +kernel
theorem dX7_readVoice_49 : decode cX7_readVoice 49 = .ok (.iconst 1, 1) := by decide +kernel
theorem dX7_readVoice_50 : decode cX7_readVoice 50 = .ok (.goto 24, 3) := by decide +kernel
theorem dX7_readVoice_53 : decode cX7_readVoice 53 = .ok (.iload_n 1, 1) := by decide +kernel
theorem dX7_readVoice_54 : decode cX7_readVoice 54 = .ok (.bipush 97, 2) := by decide +kernel
theorem dX7_readVoice_56 : decode cX7_readVoice 56 = .ok (.if_icmp .ne 7, 3) := by decide +kernel
theorem dX7_readVoice_59 : decode cX7_readVoice 59 = .ok (.iconst 2, 1) := by decide +kernel
theorem dX7_readVoice_60 : decode cX7_readVoice 60 = .ok (.goto 14, 3) := by decide +kernel
theorem dX7_readVoice_63 : decode cX7_readVoice 63 = .ok (.iload_n 1, 1) := by decide +kernel
theorem dX7_readVoice_64 : decode cX7_readVoice 64 = .ok (.bipush 115, 2) := by decide +kernel
theorem dX7_readVoice_66 : decode cX7_readVoice 66 = .ok (.if_icmp .ne 7, 3) := by decide +kernel
theorem dX7_readVoice_69 : decode cX7_readVoice 69 = .ok (.iconst 3, 1) := by decide +kernel
theorem dX7_readVoice_70 : decode cX7_readVoice 70 = .ok (.goto 4, 3) := by decide +kernel
theorem dX7_readVoice_73 : decode cX7_readVoice 73 = .ok (.iconst (-1), 1) := by decide +kernel
theorem dX7_readVoice_74 : decode cX7_readVoice 74 = .ok (.iastore, 1) := by decide +kernel
theorem dX7_readVoice_75 : decode cX7_readVoice 75 = .ok (.aload_n 0, 1) := by decide +kernel
theorem dX7_readVoice_76 : decode cX7_readVoice 76 = .ok (.dup, 1) := by decide +kernel
theorem dX7_readVoice_77 : decode cX7_readVoice 77 = .ok (.getfield 148, 3) := by decide +kernel
theorem dX7_readVoice_80 : decode cX7_readVoice 80 = .ok (.aload_n 0, 1) := by decide +kernel
theorem dX7_readVoice_81 : decode cX7_readVoice 81 = .ok (.getfield 37, 3) := by decide +kernel
theorem dX7_readVoice_84 : decode cX7_readVoice 84 = .ok (.aload_n 0, 1) := by decide +kernel
theorem dX7_readVoice_85 : decode cX7_readVoice 85 = .ok (.getfield 166, 3) := by decide +kernel
theorem dX7_readVoice_88 : decode cX7_readVoice 88 = .ok (.iaload, 1) := by decide +kernel
theorem dX7_readVoice_89 : decode cX7_readVoice 89 = .ok (.iconst (-1), 1) := by decide +kernel
theorem dX7_readVoice_90 : decode cX7_readVoice 90 = .ok (.if_icmp .ne 7, 3) := by decide +kernel
theorem dX7_readVoice_93 : decode cX7_readVoice 93 = .ok (.iconst 0, 1) := by decide +kernel
theorem dX7_readVoice_94 : decode cX7_readVoice 94 = .ok (.goto 4, 3) := by decide +kernel
theorem dX7_readVoice_97 : decode cX7_readVoice 97 = .ok (.iconst 1, 1) := by decide +kernel
theorem dX7_readVoice_98 : decode cX7_readVoice 98 = .ok (.iadd, 1) := by decide +kernel
theorem dX7_readVoice_99 : decode cX7_readVoice 99 = .ok (.putfield 148, 3) := by decide +kernel
theorem dX7_readVoice_102 : decode cX7_readVoice 102 = .ok (.aload_n 0, 1) := by decide +kernel
theorem dX7_readVoice_103 : decode cX7_readVoice 103 = .ok (.getfield 37, 3) := by decide +kernel
theorem dX7_readVoice_106 : decode cX7_readVoice 106 = .ok (.aload_n 0, 1) := by decide +kernel
theorem dX7_readVoice_107 : decode cX7_readVoice 107 = .ok (.getfield 166, 3) := by decide +kernel
theorem dX7_readVoice_110 : decode cX7_readVoice 110 = .ok (.iaload, 1) := by decide +kernel
theorem dX7_readVoice_111 : decode cX7_readVoice 111 = .ok (.iconst (-1), 1) := by decide +kernel
theorem dX7_readVoice_112 : decode cX7_readVoice 112 = .ok (.if_icmp .eq 7, 3) := by decide +kernel
theorem dX7_readVoice_115 : decode cX7_readVoice 115 = .ok (.iconst 1, 1) := by decide +kernel
theorem dX7_readVoice_116 : decode cX7_readVoice 116 = .ok (.goto 4, 3) := by decide +kernel
theorem dX7_readVoice_119 : decode cX7_readVoice 119 = .ok (.iconst 0, 1) := by decide +kernel
theorem dX7_readVoice_120 : decode cX7_readVoice 120 = .ok (.ireturn, 1) := by decide +kernel
theorem dX7_readPlaces_0 : decode cX7_readPlaces 0 = .ok (.aload_n 0, 1) := by decide +kernel
theorem dX7_readPlaces_1 : decode cX7_readPlaces 1 = .ok (.bipush 48, 2) := by decide +kernel
theorem dX7_readPlaces_3 : decode cX7_readPlaces 3 = .ok (.bipush 53, 2) := by decide +kernel
theorem dX7_readPlaces_5 : decode cX7_readPlaces 5 = .ok (.invokevirtual 154, 3) := by decide +kernel
theorem dX7_readPlaces_8 : decode cX7_readPlaces 8 = .ok (.ifCond .ne 5, 3) := by decide +kernel
theorem dX7_readPlaces_11 : decode cX7_readPlaces 11 = .ok (.iconst 0, 1) := by decide +kernel
theorem dX7_readPlaces_12 : decode cX7_readPlaces 12 = .ok (.ireturn, 1) := by decide +kernel
theorem dX7_readPlaces_13 : decode cX7_readPlaces 13 = .ok (.aload_n 0, 1) := by decide +kernel
theorem dX7_readPlaces_14 : decode cX7_readPlaces 14 = .ok (.getfield 34, 3) := by decide +kernel
theorem dX7_readPlaces_17 : decode cX7_readPlaces 17 = .ok (.aload_n 0, 1) := by decide +kernel
theorem dX7_readPlaces_18 : decode cX7_readPlaces 18 = .ok (.getfield 166, 3) := by decide +kernel
theorem dX7_readPlaces_21 : decode cX7_readPlaces 21 = .ok (.aload_n 0, 1) := by decide +kernel
theorem dX7_readPlaces_22 : decode cX7_readPlaces 22 = .ok (.iconst 1, 1) := by decide +kernel
theorem dX7_readPlaces_23 : decode cX7_readPlaces 23 = .ok (.invokevirtual 163, 3) := by decide +kernel
theorem dX7_readPlaces_26 : decode cX7_readPlaces 26 = .ok (.iastore, 1) := by decide +kernel
theorem dX7_readPlaces_27 : decode cX7_readPlaces 27 = .ok (.aload_n 0, 1) := by decide +kernel
theorem dX7_readPlaces_28 : decode cX7_readPlaces 28 = .ok (.bipush 48, 2) := by decide +kernel
theorem dX7_readPlaces_30 : decode cX7_readPlaces 30 = .ok (.bipush 53, 2) := by decide +kernel
theorem dX7_readPlaces_32 : decode cX7_readPlaces 32 = .ok (.invokevirtual 154, 3) := by decide +kernel
theorem dX7_readPlaces_35 : decode cX7_readPlaces 35 = .ok (.ifCond .ne 5, 3) := by decide +kernel
theorem dX7_readPlaces_38 : decode cX7_readPlaces 38 = .ok (.iconst 0, 1) := by decide +kernel
theorem dX7_readPlaces_39 : decode cX7_readPlaces 39 = .ok (.ireturn, 1) := by decide +kernel
theorem dX7_readPlaces_40 : decode cX7_readPlaces 40 = .ok (.aload_n 0, 1) := by decide +kernel
theorem dX7_readPlaces_41 : decode cX7_readPlaces 41 = .ok (.getfield 37, 3) := by decide +kernel
theorem dX7_readPlaces_44 : decode cX7_readPlaces 44 = .ok (.aload_n 0, 1) := by decide +kernel
theorem dX7_readPlaces_45 : decode cX7_readPlaces 45 = .ok (.getfield 166, 3) := by decide +kernel
theorem dX7_readPlaces_48 : decode cX7_readPlaces 48 = .ok (.aload_n 0, 1) := by decide +kernel
theorem dX7_readPlaces_49 : decode cX7_readPlaces 49 = .ok (.iconst 1, 1) := by decide +kernel
theorem dX7_readPlaces_50 : decode cX7_readPlaces 50 = .ok (.invokevirtual 163, 3) := by decide +kernel
theorem dX7_readPlaces_53 : decode cX7_readPlaces 53 = .ok (.iastore, 1) := by decide +kernel
theorem dX7_readPlaces_54 : decode cX7_readPlaces 54 = .ok (.iconst 1, 1) := by decide +kernel
theorem dX7_readPlaces_55 : decode cX7_readPlaces 55 = .ok (.ireturn, 1) := by decide +kernel
theorem dX7_readPart_0 : decode cX7_readPart 0 = .ok (.aload_n 0, 1) := by decide +kernel
theorem dX7_readPart_1 : decode cX7_readPart 1 = .ok (.getfield 148, 3) := by decide +kernel
theorem dX7_readPart_4 : decode cX7_readPart 4 = .ok (.aload_n 0, 1) := by decide +kernel
theorem dX7_readPart_5 : decode cX7_readPart 5 = .ok (.getfield 145, 3) := by decide +kernel
theorem dX7_readPart_8 : decode cX7_readPart 8 = .ok (.if_icmp .ge 15, 3) := by decide +kernel
theorem dX7_readPart_11 : decode cX7_readPart 11 = .ok (.aload_n 0, 1) := by decide +kernel
theorem dX7_readPart_12 : decode cX7_readPart 12 = .ok (.getfield 25, 3) := by decide +kernel
theorem dX7_readPart_15 : decode cX7_readPart 15 = .ok (.aload_n 0, 1) := by decide +kernel
theorem dX7_readPart_16 : decode cX7_readPart 16 = .ok (.getfield 148, 3) := by decide +kernel
theorem dX7_readPart_19 : decode cX7_readPart 19 = .ok (.iaload, 1) := by decide +kernel
theorem dX7_readPart_20 : decode cX7_readPart 20 = .ok (.goto 4, 3) := by decide +kernel
theorem dX7_readPart_23 : decode cX7_readPart 23 = .ok (.iconst 0, 1) := by decide +kernel
theorem dX7_readPart_24 : decode cX7_readPart 24 = .ok (.istore_n 1, 1) := by decide +kernel
theorem dX7_readPart_25 : decode cX7_readPart 25 = .ok (.iload_n 1, 1) := by decide +kernel
theorem dX7_readPart_26 : decode cX7_readPart 26 = .ok (.bipush 106, 2) := by decide +kernel
theorem dX7_readPart_28 : decode cX7_readPart 28 = .ok (.if_icmp .eq 33, 3) := by decide +kernel
theorem dX7_readPart_31 : decode cX7_readPart 31 = .ok (.iload_n 1, 1) := by decide +kernel
theorem dX7_readPart_32 : decode cX7_readPart 32 = .ok (.bipush 115, 2) := by decide +kernel
theorem dX7_readPart_34 : decode cX7_readPart 34 = .ok (.if_icmp .eq 27, 3) := by decide +kernel
theorem dX7_readPart_37 : decode cX7_readPart 37 = .ok (.iload_n 1, 1) := by decide +kernel
theorem dX7_readPart_38 : decode cX7_readPart 38 = .ok (.bipush 116, 2) := by decide +kernel
theorem dX7_readPart_40 : decode cX7_readPart 40 = .ok (.if_icmp .eq 21, 3) := by decide +kernel
theorem dX7_readPart_43 : decode cX7_readPart 43 = .ok (.iload_n 1, 1) := by decide +kernel
theorem dX7_readPart_44 : decode cX7_readPart 44 = .ok (.bipush 108, 2) := by decide +kernel
theorem dX7_readPart_46 : decode cX7_readPart 46 = .ok (.if_icmp .eq 15, 3) := by decide +kernel
theorem dX7_readPart_49 : decode cX7_readPart 49 = .ok (.iload_n 1, 1) := by decide +kernel
theorem dX7_readPart_50 : decode cX7_readPart 50 = .ok (.bipush 104, 2) := by decide +kernel
theorem dX7_readPart_52 : decode cX7_readPart 52 = .ok (.if_icmp .eq 9, 3) := by decide +kernel
theorem dX7_readPart_55 : decode cX7_readPart 55 = .ok (.iload_n 1, 1) := by decide +kernel
theorem dX7_readPart_56 : decode cX7_readPart 56 = .ok (.bipush 118, 2) := by decide +kernel
theorem dX7_readPart_58 : decode cX7_readPart 58 = .ok (.if_icmp .ne 7, 3) := by decide +kernel
theorem dX7_readPart_61 : decode cX7_readPart 61 = .ok (.iconst 1, 1) := by decide +kernel
theorem dX7_readPart_62 : decode cX7_readPart 62 = .ok (.goto 4, 3) := by decide +kernel
theorem dX7_readPart_65 : decode cX7_readPart 65 = .ok (.iconst 0, 1) := by decide +kernel
theorem dX7_readPart_66 : decode cX7_readPart 66 = .ok (.istore_n 2, 1) := by decide +kernel
theorem dX7_readPart_67 : decode cX7_readPart 67 = .ok (.aload_n 0, 1) := by decide +kernel
theorem dX7_readPart_68 : decode cX7_readPart 68 = .ok (.dup, 1) := by decide +kernel
theorem dX7_readPart_69 : decode cX7_readPart 69 = .ok (.getfield 148, 3) := by decide +kernel
theorem dX7_readPart_72 : decode cX7_readPart 72 = .ok (.iload_n 2, 1) := by decide +kernel
theorem dX7_readPart_73 : decode cX7_readPart 73 = .ok (.ifCond .eq 7, 3) := by decide +kernel
theorem dX7_readPart_76 : decode cX7_readPart 76 = .ok (.iconst 1, 1) := by decide +kernel
theorem dX7_readPart_77 : decode cX7_readPart 77 = .ok (.goto 4, 3) := by decide +kernel
theorem dX7_readPart_80 : decode cX7_readPart 80 = .ok (.iconst 0, 1) := by decide +kernel
theorem dX7_readPart_81 : decode cX7_readPart 81 = .ok (.iadd, 1) := by decide +kernel
theorem dX7_readPart_82 : decode cX7_readPart 82 = .ok (.putfield 148, 3) := by decide +kernel
theorem dX7_readPart_85 : decode cX7_readPart 85 = .ok (.iload_n 2, 1) := by decide +kernel
theorem dX7_readPart_86 : decode cX7_readPart 86 = .ok (.ifCond .eq 31, 3) := by decide +kernel
theorem dX7_readPart_89 : decode cX7_readPart 89 = .ok (.aload_n 0, 1) := by decide +kernel
theorem dX7_readPart_90 : decode cX7_readPart 90 = .ok (.iload_n 1, 1) := by decide +kernel
theorem dX7_readPart_91 : decode cX7_readPart 91 = .ok (.invokevirtual 169, 3) := by decide +kernel
theorem dX7_readPart_94 : decode cX7_readPart 94 = .ok (.ifCond .eq 23, 3) := by decide +kernel
theorem dX7_readPart_97 : decode cX7_readPart 97 = .ok (.aload_n 0, 1) := by decide +kernel
theorem dX7_readPart_98 : decode cX7_readPart 98 = .ok (.bipush 58, 2) := by decide +kernel
theorem dX7_readPart_100 : decode cX7_readPart 100 = .ok (.invokevirtual 157, 3) := by decide +kernel
theorem dX7_readPart_103 : decode cX7_readPart 103 = .ok (.ifCond .eq 14, 3) := by decide +kernel
theorem dX7_readPart_106 : decode cX7_readPart 106 = .ok (.aload_n 0, 1) := by decide +kernel
theorem dX7_readPart_107 : decode cX7_readPart 107 = .ok (.bipush 48, 2) := by decide +kernel
theorem dX7_readPart_109 : decode cX7_readPart 109 = .ok (.bipush 51, 2) := by decide +kernel
theorem dX7_readPart_111 : decode cX7_readPart 111 = .ok (.invokevirtual 154, 3) := by decide +kernel
theorem dX7_readPart_114 : decode cX7_readPart 114 = .ok (.ifCond .ne 5, 3) := by decide +kernel
theorem dX7_readPart_117 : decode cX7_readPart 117 = .ok (.iconst 0, 1) := by decide +kernel
theorem dX7_readPart_118 : decode cX7_readPart 118 = .ok (.ireturn, 1) := by decide +kernel
theorem dX7_readPart_119 : decode cX7_readPart 119 = .ok (.aload_n 0, 1) := by decide +kernel
theorem dX7_readPart_120 : decode cX7_readPart 120 = .ok (.getfield 28, 3) := by decide +kernel
theorem dX7_readPart_123 : decode cX7_readPart 123 = .ok (.aload_n 0, 1) := by decide +kernel
theorem dX7_readPart_124 : decode cX7_readPart 124 = .ok (.getfield 166, 3) := by decide +kernel
theorem dX7_readPart_127 : decode cX7_readPart 127 = .ok (.iload_n 1, 1) := by decide +kernel
theorem dX7_readPart_128 : decode cX7_readPart 128 = .ok (.iastore, 1) := by decide +kernel
theorem dX7_readPart_129 : decode cX7_readPart 129 = .ok (.aload_n 0, 1) := by decide +kernel
theorem dX7_readPart_130 : decode cX7_readPart 130 = .ok (.getfield 31, 3) := by decide +kernel
theorem dX7_readPart_133 : decode cX7_readPart 133 = .ok (.aload_n 0, 1) := by decide +kernel
theorem dX7_readPart_134 : decode cX7_readPart 134 = .ok (.getfield 166, 3) := by decide +kernel
theorem dX7_readPart_137 : decode cX7_readPart 137 = .ok (.aload_n 0, 1) := by decide +kernel
theorem dX7_readPart_138 : decode cX7_readPart 138 = .ok (.iconst 1, 1) := by decide +kernel
theorem dX7_readPart_139 : decode cX7_readPart 139 = .ok (.invokevirtual 163, 3) := by decide +kernel
theorem dX7_readPart_142 : decode cX7_readPart 142 = .ok (.iastore, 1) := by decide +kernel
theorem dX7_readPart_143 : decode cX7_readPart 143 = .ok (.iload_n 1, 1) := by decide +kernel
theorem dX7_readPart_144 : decode cX7_readPart 144 = .ok (.bipush 106, 2) := by decide +kernel
theorem dX7_readPart_146 : decode cX7_readPart 146 = .ok (.if_icmp .ne 34, 3) := by decide +kernel
theorem dX7_readPart_149 : decode cX7_readPart 149 = .ok (.aload_n 0, 1) := by decide +kernel
theorem dX7_readPart_150 : decode cX7_readPart 150 = .ok (.bipush 44, 2) := by decide +kernel
theorem dX7_readPart_152 : decode cX7_readPart 152 = .ok (.invokevirtual 157, 3) := by decide +kernel
theorem dX7_readPart_155 : decode cX7_readPart 155 = .ok (.ifCond .eq 21, 3) := by decide +kernel
theorem dX7_readPart_158 : decode cX7_readPart 158 = .ok (.aload_n 0, 1) := by decide +kernel
theorem dX7_readPart_159 : decode cX7_readPart 159 = .ok (.invokevirtual 172, 3) := by decide +kernel
theorem dX7_readPart_162 : decode cX7_readPart 162 = .ok (.ifCond .eq 14, 3) := by decide +kernel
theorem dX7_readPart_165 : decode cX7_readPart 165 = .ok (.aload_n 0, 1) := by decide +kernel
theorem dX7_readPart_166 : decode cX7_readPart 166 = .ok (.invokevirtual 176, 3) := by decide +kernel
theorem dX7_readPart_169 : decode cX7_readPart 169 = .ok (.ifCond .eq 7, 3) := by decide +kernel
theorem dX7_readPart_172 : decode cX7_readPart 172 = .ok (.iconst 1, 1) := by decide +kernel
theorem dX7_readPart_173 : decode cX7_readPart 173 = .ok (.goto 34, 3) := by decide +kernel
theorem dX7_readPart_176 : decode cX7_readPart 176 = .ok (.iconst 0, 1) := by decide +kernel
theorem dX7_readPart_177 : decode cX7_readPart 177 = .ok (.goto 30, 3) := by decide +kernel
theorem dX7_readPart_180 : decode cX7_readPart 180 = .ok (.iload_n 1, 1) := by decide +kernel
theorem dX7_readPart_181 : decode cX7_readPart 181 = .ok (.bipush 115, 2) := by decide +kernel
theorem dX7_readPart_183 : decode cX7_readPart 183 = .ok (.if_icmp .ne 19, 3) := by decide +kernel
theorem dX7_readPart_186 : decode cX7_readPart 186 = .ok (.aload_n 0, 1) := by decide +kernel
theorem dX7_readPart_187 : decode cX7_readPart 187 = .ok (.bipush 44, 2) := by decide +kernel
theorem dX7_readPart_189 : decode cX7_readPart 189 = .ok (.invokevirtual 157, 3) := by decide +kernel
theorem dX7_readPart_192 : decode cX7_readPart 192 = .ok (.ifCond .eq 14, 3) := by decide +kernel
theorem dX7_readPart_195 : decode cX7_readPart 195 = .ok (.aload_n 0, 1) := by decide +kernel
theorem dX7_readPart_196 : decode cX7_readPart 196 = .ok (.invokevirtual 179, 3) := by decide +kernel
theorem dX7_readPart_199 : decode cX7_readPart 199 = .ok (.ifCond .eq 7, 3) := by decide +kernel
theorem dX7_readPart_202 : decode cX7_readPart 202 = .ok (.iconst 1, 1) := by decide +kernel
theorem dX7_readPart_203 : decode cX7_readPart 203 = .ok (.goto 4, 3) := by decide +kernel
theorem dX7_readPart_206 : decode cX7_readPart 206 = .ok (.iconst 0, 1) := by decide +kernel
theorem dX7_readPart_207 : decode cX7_readPart 207 = .ok (.istore_n 3, 1) := by decide +kernel
theorem dX7_readPart_208 : decode cX7_readPart 208 = .ok (.aload_n 0, 1) := by decide +kernel
theorem dX7_readPart_209 : decode cX7_readPart 209 = .ok (.dup, 1) := by decide +kernel
theorem dX7_readPart_210 : decode cX7_readPart 210 = .ok (.getfield 166, 3) := by decide +kernel
theorem dX7_readPart_213 : decode cX7_readPart 213 = .ok (.iload_n 3, 1) := by decide +kernel
theorem dX7_readPart_214 : decode cX7_readPart 214 = .ok (.ifCond .eq 7, 3) := by decide +kernel
theorem dX7_readPart_217 : decode cX7_readPart 217 = .ok (.iconst 1, 1) := by decide +kernel
theorem dX7_readPart_218 : decode cX7_readPart 218 = .ok (.goto 4, 3) := by decide +kernel
theorem dX7_readPart_221 : decode cX7_readPart 221 = .ok (.iconst 0, 1) := by decide +kernel
theorem dX7_readPart_222 : decode cX7_readPart 222 = .ok (.iadd, 1) := by decide +kernel
theorem dX7_readPart_223 : decode cX7_readPart 223 = .ok (.putfield 166, 3) := by decide +kernel
theorem dX7_readPart_226 : decode cX7_readPart 226 = .ok (.iload_n 3, 1) := by decide +kernel
theorem dX7_readPart_227 : decode cX7_readPart 227 = .ok (.ireturn, 1) := by decide +kernel
theorem dX7_isChants_0 : decode cX7_isChants 0 = .ok (.aload_n 0, 1) := by decide +kernel
theorem dX7_isChants_1 : decode cX7_isChants 1 = .ok (.iconst 0, 1) := by decide +kernel
theorem dX7_isChants_2 : decode cX7_isChants 2 = .ok (.putfield 148, 3) := by decide +kernel
theorem dX7_isChants_5 : decode cX7_isChants 5 = .ok (.aload_n 0, 1) := by decide +kernel
theorem dX7_isChants_6 : decode cX7_isChants 6 = .ok (.iconst 0, 1) := by decide +kernel
theorem dX7_isChants_7 : decode cX7_isChants 7 = .ok (.putfield 166, 3) := by decide +kernel
theorem dX7_isChants_10 : decode cX7_isChants 10 = .ok (.aload_n 0, 1) := by decide +kernel
theorem dX7_isChants_11 : decode cX7_isChants 11 = .ok (.invokevirtual 182, 3) := by decide +kernel
theorem dX7_isChants_14 : decode cX7_isChants 14 = .ok (.istore_n 1, 1) := by decide +kernel
theorem dX7_isChants_15 : decode cX7_isChants 15 = .ok (.iload_n 1, 1) := by decide +kernel
theorem dX7_isChants_16 : decode cX7_isChants 16 = .ok (.ifCond .eq 20, 3) := by decide +kernel
theorem dX7_isChants_19 : decode cX7_isChants 19 = .ok (.aload_n 0, 1) := by decide +kernel
theorem dX7_isChants_20 : decode cX7_isChants 20 = .ok (.bipush 59, 2) := by decide +kernel
theorem dX7_isChants_22 : decode cX7_isChants 22 = .ok (.invokevirtual 157, 3) := by decide +kernel
theorem dX7_isChants_25 : decode cX7_isChants 25 = .ok (.ifCond .eq 11, 3) := by decide +kernel
theorem dX7_isChants_28 : decode cX7_isChants 28 = .ok (.aload_n 0, 1) := by decide +kernel
theorem dX7_isChants_29 : decode cX7_isChants 29 = .ok (.invokevirtual 182, 3) := by decide +kernel
theorem dX7_isChants_32 : decode cX7_isChants 32 = .ok (.istore_n 1, 1) := by decide +kernel
theorem dX7_isChants_33 : decode cX7_isChants 33 = .ok (.goto (-18), 3) := by decide +kernel
theorem dX7_isChants_36 : decode cX7_isChants 36 = .ok (.iload_n 1, 1) := by decide +kernel
theorem dX7_isChants_37 : decode cX7_isChants 37 = .ok (.ifCond .eq 18, 3) := by decide +kernel
theorem dX7_isChants_40 : decode cX7_isChants 40 = .ok (.aload_n 0, 1) := by decide +kernel
theorem dX7_isChants_41 : decode cX7_isChants 41 = .ok (.getfield 148, 3) := by decide +kernel
theorem dX7_isChants_44 : decode cX7_isChants 44 = .ok (.aload_n 0, 1) := by decide +kernel
theorem dX7_isChants_45 : decode cX7_isChants 45 = .ok (.getfield 145, 3) := by decide +kernel
theorem dX7_isChants_48 : decode cX7_isChants 48 = .ok (.if_icmp .ne 7, 3) := by decide +kernel
theorem dX7_isChants_51 : decode cX7_isChants 51 = .ok (.iconst 1, 1) := by decide +kernel
theorem dX7_isChants_52 : decode cX7_isChants 52 = .ok (.goto 4, 3) := by decide +kernel
theorem dX7_isChants_55 : decode cX7_isChants 55 = .ok (.iconst 0, 1) := by decide +kernel
theorem dX7_isChants_56 : decode cX7_isChants 56 = .ok (.ireturn, 1) := by decide +kernel
theorem dX7_firstError_0 : decode cX7_firstError 0 = .ok (.aload_n 0, 1) := by decide +kernel
theorem dX7_firstError_1 : decode cX7_firstError 1 = .ok (.iconst 0, 1) := by decide +kernel
theorem dX7_firstError_2 : decode cX7_firstError 2 = .ok (.putfield 40, 3) := by decide +kernel
theorem dX7_firstError_5 : decode cX7_firstError 5 = .ok (.aload_n 0, 1) := by decide +kernel
theorem dX7_firstError_6 : decode cX7_firstError 6 = .ok (.invokevirtual 185, 3) := by decide +kernel
theorem dX7_firstError_9 : decode cX7_firstError 9 = .ok (.ifCond .eq 10, 3) := by decide +kernel
theorem dX7_firstError_12 : decode cX7_firstError 12 = .ok (.aload_n 0, 1) := by decide +kernel
theorem dX7_firstError_13 : decode cX7_firstError 13 = .ok (.getfield 145, 3) := by decide +kernel
theorem dX7_firstError_16 : decode cX7_firstError 16 = .ok (.goto 7, 3) := by decide +kernel
theorem dX7_firstError_19 : decode cX7_firstError 19 = .ok (.aload_n 0, 1) := by decide +kernel
theorem dX7_firstError_20 : decode cX7_firstError 20 = .ok (.getfield 148, 3) := by decide +kernel
theorem dX7_firstError_23 : decode cX7_firstError 23 = .ok (.ireturn, 1) := by decide +kernel
theorem dX7_canDo_0 : decode cX7_canDo 0 = .ok (.aload_n 0, 1) := by decide +kernel
theorem dX7_canDo_1 : decode cX7_canDo 1 = .ok (.getfield 28, 3) := by decide +kernel
theorem dX7_canDo_4 : decode cX7_canDo 4 = .ok (.iload_n 1, 1) := by decide +kernel
theorem dX7_canDo_5 : decode cX7_canDo 5 = .ok (.iaload, 1) := by decide +kernel
theorem dX7_canDo_6 : decode cX7_canDo 6 = .ok (.bipush 106, 2) := by decide +kernel
theorem dX7_canDo_8 : decode cX7_canDo 8 = .ok (.if_icmp .ne 16, 3) := by decide +kernel
theorem dX7_canDo_11 : decode cX7_canDo 11 = .ok (.aload_n 0, 1) := by decide +kernel
theorem dX7_canDo_12 : decode cX7_canDo 12 = .ok (.aload_n 0, 1) := by decide +kernel
theorem dX7_canDo_13 : decode cX7_canDo 13 = .ok (.getfield 31, 3) := by decide +kernel
theorem dX7_canDo_16 : decode cX7_canDo 16 = .ok (.iload_n 1, 1) := by decide +kernel
theorem dX7_canDo_17 : decode cX7_canDo 17 = .ok (.iaload, 1) := by decide +kernel
theorem dX7_canDo_18 : decode cX7_canDo 18 = .ok (.invokevirtual 119, 3) := by decide +kernel
theorem dX7_canDo_21 : decode cX7_canDo 21 = .ok (.goto 57, 3) := by decide +kernel
theorem dX7_canDo_24 : decode cX7_canDo 24 = .ok (.aload_n 0, 1) := by decide +kernel
theorem dX7_canDo_25 : decode cX7_canDo 25 = .ok (.getfield 28, 3) := by decide +kernel
theorem dX7_canDo_28 : decode cX7_canDo 28 = .ok (.iload_n 1, 1) := by decide +kernel
theorem dX7_canDo_29 : decode cX7_canDo 29 = .ok (.iaload, 1) := by decide +kernel
theorem dX7_canDo_30 : decode cX7_canDo 30 = .ok (.bipush 115, 2) := by decide +kernel
theorem dX7_canDo_32 : decode cX7_canDo 32 = .ok (.if_icmp .ne 41, 3) := by decide +kernel
theorem dX7_canDo_35 : decode cX7_canDo 35 = .ok (.aload_n 0, 1) := by decide +kernel
theorem dX7_canDo_36 : decode cX7_canDo 36 = .ok (.aload_n 0, 1) := by decide +kernel
theorem dX7_canDo_37 : decode cX7_canDo 37 = .ok (.getfield 31, 3) := by decide +kernel
theorem dX7_canDo_40 : decode cX7_canDo 40 = .ok (.iload_n 1, 1) := by decide +kernel
theorem dX7_canDo_41 : decode cX7_canDo 41 = .ok (.iaload, 1) := by decide +kernel
theorem dX7_canDo_42 : decode cX7_canDo 42 = .ok (.aload_n 0, 1) := by decide +kernel
theorem dX7_canDo_43 : decode cX7_canDo 43 = .ok (.getfield 34, 3) := by decide +kernel
theorem dX7_canDo_46 : decode cX7_canDo 46 = .ok (.iload_n 1, 1) := by decide +kernel
theorem dX7_canDo_47 : decode cX7_canDo 47 = .ok (.iaload, 1) := by decide +kernel
theorem dX7_canDo_48 : decode cX7_canDo 48 = .ok (.invokevirtual 126, 3) := by decide +kernel
theorem dX7_canDo_51 : decode cX7_canDo 51 = .ok (.ifCond .eq 26, 3) := by decide +kernel
theorem dX7_canDo_54 : decode cX7_canDo 54 = .ok (.aload_n 0, 1) := by decide +kernel
theorem dX7_canDo_55 : decode cX7_canDo 55 = .ok (.aload_n 0, 1) := by decide +kernel
theorem dX7_canDo_56 : decode cX7_canDo 56 = .ok (.getfield 31, 3) := by decide +kernel
theorem dX7_canDo_59 : decode cX7_canDo 59 = .ok (.iload_n 1, 1) := by decide +kernel
theorem dX7_canDo_60 : decode cX7_canDo 60 = .ok (.iaload, 1) := by decide +kernel
theorem dX7_canDo_61 : decode cX7_canDo 61 = .ok (.aload_n 0, 1) := by decide +kernel
theorem dX7_canDo_62 : decode cX7_canDo 62 = .ok (.getfield 37, 3) := by decide +kernel
theorem dX7_canDo_65 : decode cX7_canDo 65 = .ok (.iload_n 1, 1) := by decide +kernel
theorem dX7_canDo_66 : decode cX7_canDo 66 = .ok (.iaload, 1) := by decide +kernel
theorem dX7_canDo_67 : decode cX7_canDo 67 = .ok (.invokevirtual 126, 3) := by decide +kernel
theorem dX7_canDo_70 : decode cX7_canDo 70 = .ok (.ifCond .eq 7, 3) := by decide +kernel
theorem dX7_canDo_73 : decode cX7_canDo 73 = .ok (.iconst 1, 1) := by decide +kernel
theorem dX7_canDo_74 : decode cX7_canDo 74 = .ok (.goto 4, 3) := by decide +kernel
theorem dX7_canDo_77 : decode cX7_canDo 77 = .ok (.iconst 0, 1) := by decide +kernel
theorem dX7_canDo_78 : decode cX7_canDo 78 = .ok (.ireturn, 1) := by decide +kernel
theorem dX7_doPart_0 : decode cX7_doPart 0 = .ok (.aload_n 0, 1) := by decide +kernel
theorem dX7_doPart_1 : decode cX7_doPart 1 = .ok (.getfield 31, 3) := by decide +kernel
theorem dX7_doPart_4 : decode cX7_doPart 4 = .ok (.iload_n 1, 1) := by decide +kernel
theorem dX7_doPart_5 : decode cX7_doPart 5 = .ok (.iaload, 1) := by decide +kernel
theorem dX7_doPart_6 : decode cX7_doPart 6 = .ok (.istore_n 2, 1) := by decide +kernel
theorem dX7_doPart_7 : decode cX7_doPart 7 = .ok (.aload_n 0, 1) := by decide +kernel
theorem dX7_doPart_8 : decode cX7_doPart 8 = .ok (.getfield 28, 3) := by decide +kernel
theorem dX7_doPart_11 : decode cX7_doPart 11 = .ok (.iload_n 1, 1) := by decide +kernel
theorem dX7_doPart_12 : decode cX7_doPart 12 = .ok (.iaload, 1) := by decide +kernel
theorem dX7_doPart_13 : decode cX7_doPart 13 = .ok (.lookupswitch 104 #[(106, 35), (115, 56), (116, 96)], 35) := by decide +kernel
theorem dX7_doPart_48 : decode cX7_doPart 48 = .ok (.aload_n 0, 1) := by decide +kernel
theorem dX7_doPart_49 : decode cX7_doPart 49 = .ok (.iload_n 2, 1) := by decide +kernel
theorem dX7_doPart_50 : decode cX7_doPart 50 = .ok (.aload_n 0, 1) := by decide +kernel
theorem dX7_doPart_51 : decode cX7_doPart 51 = .ok (.getfield 34, 3) := by decide +kernel
theorem dX7_doPart_54 : decode cX7_doPart 54 = .ok (.iload_n 1, 1) := by decide +kernel
theorem dX7_doPart_55 : decode cX7_doPart 55 = .ok (.iaload, 1) := by decide +kernel
theorem dX7_doPart_56 : decode cX7_doPart 56 = .ok (.aload_n 0, 1) := by decide +kernel
theorem dX7_doPart_57 : decode cX7_doPart 57 = .ok (.getfield 37, 3) := by decide +kernel
theorem dX7_doPart_60 : decode cX7_doPart 60 = .ok (.iload_n 1, 1) := by decide +kernel
theorem dX7_doPart_61 : decode cX7_doPart 61 = .ok (.iaload, 1) := by decide +kernel
theorem dX7_doPart_62 : decode cX7_doPart 62 = .ok (.invokevirtual 122, 3) := by decide +kernel
theorem dX7_doPart_65 : decode cX7_doPart 65 = .ok (.istore_n 3, 1) := by decide +kernel
theorem dX7_doPart_66 : decode cX7_doPart 66 = .ok (.goto 87, 3) := by decide +kernel
theorem dX7_doPart_69 : decode cX7_doPart 69 = .ok (.aload_n 0, 1) := by decide +kernel
theorem dX7_doPart_70 : decode cX7_doPart 70 = .ok (.bipush 6, 2) := by decide +kernel
theorem dX7_doPart_72 : decode cX7_doPart 72 = .ok (.iload_n 2, 1) := by decide +kernel
theorem dX7_doPart_73 : decode cX7_doPart 73 = .ok (.imul, 1) := by decide +kernel
theorem dX7_doPart_74 : decode cX7_doPart 74 = .ok (.aload_n 0, 1) := by decide +kernel
theorem dX7_doPart_75 : decode cX7_doPart 75 = .ok (.getfield 34, 3) := by decide +kernel
theorem dX7_doPart_78 : decode cX7_doPart 78 = .ok (.iload_n 1, 1) := by decide +kernel
theorem dX7_doPart_79 : decode cX7_doPart 79 = .ok (.iaload, 1) := by decide +kernel
theorem dX7_doPart_80 : decode cX7_doPart 80 = .ok (.iadd, 1) := by decide +kernel
theorem dX7_doPart_81 : decode cX7_doPart 81 = .ok (.bipush 6, 2) := by decide +kernel
theorem dX7_doPart_83 : decode cX7_doPart 83 = .ok (.iload_n 2, 1) := by decide +kernel
theorem dX7_doPart_84 : decode cX7_doPart 84 = .ok (.imul, 1) := by decide +kernel
theorem dX7_doPart_85 : decode cX7_doPart 85 = .ok (.aload_n 0, 1) := by decide +kernel
theorem dX7_doPart_86 : decode cX7_doPart 86 = .ok (.getfield 37, 3) := by decide +kernel
theorem dX7_doPart_89 : decode cX7_doPart 89 = .ok (.iload_n 1, 1) := by decide +kernel
theorem dX7_doPart_90 : decode cX7_doPart 90 = .ok (.iaload, 1) := by decide +kernel
theorem dX7_doPart_91 : decode cX7_doPart 91 = .ok (.iadd, 1) := by decide +kernel
theorem dX7_doPart_92 : decode cX7_doPart 92 = .ok (.invokevirtual 110, 3) := by decide +kernel
theorem dX7_doPart_95 : decode cX7_doPart 95 = .ok (.aload_n 0, 1) := by decide +kernel
theorem dX7_doPart_96 : decode cX7_doPart 96 = .ok (.getfield 7, 3) := by decide +kernel
theorem dX7_doPart_99 : decode cX7_doPart 99 = .ok (.bipush 80, 2) := by decide +kernel
theorem dX7_doPart_101 : decode cX7_doPart 101 = .ok (.dup2, 1) := by decide +kernel
theorem dX7_doPart_102 : decode cX7_doPart 102 = .ok (.iaload, 1) := by decide +kernel
theorem dX7_doPart_103 : decode cX7_doPart 103 = .ok (.iconst 1, 1) := by decide +kernel
theorem dX7_doPart_104 : decode cX7_doPart 104 = .ok (.iadd, 1) := by decide +kernel
theorem dX7_doPart_105 : decode cX7_doPart 105 = .ok (.iastore, 1) := by decide +kernel
theorem dX7_doPart_106 : decode cX7_doPart 106 = .ok (.goto 47, 3) := by decide +kernel
theorem dX7_doPart_109 : decode cX7_doPart 109 = .ok (.aload_n 0, 1) := by decide +kernel
theorem dX7_doPart_110 : decode cX7_doPart 110 = .ok (.iload_n 2, 1) := by decide +kernel
theorem dX7_doPart_111 : decode cX7_doPart 111 = .ok (.invokevirtual 136, 3) := by decide +kernel
theorem dX7_doPart_114 : decode cX7_doPart 114 = .ok (.goto 39, 3) := by decide +kernel
theorem dX7_doPart_117 : decode cX7_doPart 117 = .ok (.aload_n 0, 1) := by decide +kernel
theorem dX7_doPart_118 : decode cX7_doPart 118 = .ok (.iload_n 2, 1) := by decide +kernel
theorem dX7_doPart_119 : decode cX7_doPart 119 = .ok (.aload_n 0, 1) := by decide +kernel
theorem dX7_doPart_120 : decode cX7_doPart 120 = .ok (.getfield 28, 3) := by decide +kernel
theorem dX7_doPart_123 : decode cX7_doPart 123 = .ok (.iload_n 1, 1) := by decide +kernel
theorem dX7_doPart_124 : decode cX7_doPart 124 = .ok (.iaload, 1) := by decide +kernel
theorem dX7_doPart_125 : decode cX7_doPart 125 = .ok (.bipush 108, 2) := by decide +kernel
theorem dX7_doPart_127 : decode cX7_doPart 127 = .ok (.if_icmp .ne 7, 3) := by decide +kernel
theorem dX7_doPart_130 : decode cX7_doPart 130 = .ok (.iconst 0, 1) := by decide +kernel
theorem dX7_doPart_131 : decode cX7_doPart 131 = .ok (.goto 19, 3) := by decide +kernel
theorem dX7_doPart_134 : decode cX7_doPart 134 = .ok (.aload_n 0, 1) := by decide +kernel
theorem dX7_doPart_135 : decode cX7_doPart 135 = .ok (.getfield 28, 3) := by decide +kernel
theorem dX7_doPart_138 : decode cX7_doPart 138 = .ok (.iload_n 1, 1) := by decide +kernel
theorem dX7_doPart_139 : decode cX7_doPart 139 = .ok (.iaload, 1) := by decide +kernel
theorem dX7_doPart_140 : decode cX7_doPart 140 = .ok (.bipush 104, 2) := by decide +kernel
theorem dX7_doPart_142 : decode cX7_doPart 142 = .ok (.if_icmp .ne 7, 3) := by decide +kernel
theorem dX7_doPart_145 : decode cX7_doPart 145 = .ok (.iconst 1, 1) := by decide +kernel
theorem dX7_doPart_146 : decode cX7_doPart 146 = .ok (.goto 4, 3) := by decide +kernel
theorem dX7_doPart_149 : decode cX7_doPart 149 = .ok (.iconst 2, 1) := by decide +kernel
theorem dX7_doPart_150 : decode cX7_doPart 150 = .ok (.invokevirtual 139, 3) := by decide +kernel
theorem dX7_doPart_153 : decode cX7_doPart 153 = .ok (.return_, 1) := by decide +kernel
theorem dX7_chant_0 : decode cX7_chant 0 = .ok (.aload_n 0, 1) := by decide +kernel
theorem dX7_chant_1 : decode cX7_chant 1 = .ok (.iconst 0, 1) := by decide +kernel
theorem dX7_chant_2 : decode cX7_chant 2 = .ok (.putfield 40, 3) := by decide +kernel
theorem dX7_chant_5 : decode cX7_chant 5 = .ok (.aload_n 0, 1) := by decide +kernel
theorem dX7_chant_6 : decode cX7_chant 6 = .ok (.invokevirtual 185, 3) := by decide +kernel
theorem dX7_chant_9 : decode cX7_chant 9 = .ok (.ifCond .ne 9, 3) := by decide +kernel
theorem dX7_chant_12 : decode cX7_chant 12 = .ok (.aload_n 0, 1) := by decide +kernel
theorem dX7_chant_13 : decode cX7_chant 13 = .ok (.iconst 1, 1) := by decide +kernel
theorem dX7_chant_14 : decode cX7_chant 14 = .ok (.invokevirtual 55, 3) := by decide +kernel
theorem dX7_chant_17 : decode cX7_chant 17 = .ok (.ireturn, 1) := by decide +kernel
theorem dX7_chant_18 : decode cX7_chant 18 = .ok (.aload_n 0, 1) := by decide +kernel
theorem dX7_chant_19 : decode cX7_chant 19 = .ok (.invokevirtual 67, 3) := by decide +kernel
theorem dX7_chant_22 : decode cX7_chant 22 = .ok (.iconst 0, 1) := by decide +kernel
theorem dX7_chant_23 : decode cX7_chant 23 = .ok (.istore_n 1, 1) := by decide +kernel
theorem dX7_chant_24 : decode cX7_chant 24 = .ok (.iload_n 1, 1) := by decide +kernel
theorem dX7_chant_25 : decode cX7_chant 25 = .ok (.aload_n 0, 1) := by decide +kernel
theorem dX7_chant_26 : decode cX7_chant 26 = .ok (.getfield 166, 3) := by decide +kernel
theorem dX7_chant_29 : decode cX7_chant 29 = .ok (.if_icmp .ge 22, 3) := by decide +kernel
theorem dX7_chant_32 : decode cX7_chant 32 = .ok (.aload_n 0, 1) := by decide +kernel
theorem dX7_chant_33 : decode cX7_chant 33 = .ok (.iload_n 1, 1) := by decide +kernel
theorem dX7_chant_34 : decode cX7_chant 34 = .ok (.invokevirtual 188, 3) := by decide +kernel
theorem dX7_chant_37 : decode cX7_chant 37 = .ok (.ifCond .eq 14, 3) := by decide +kernel
theorem dX7_chant_40 : decode cX7_chant 40 = .ok (.aload_n 0, 1) := by decide +kernel
theorem dX7_chant_41 : decode cX7_chant 41 = .ok (.iload_n 1, 1) := by decide +kernel
theorem dX7_chant_42 : decode cX7_chant 42 = .ok (.invokevirtual 191, 3) := by decide +kernel
theorem dX7_chant_45 : decode cX7_chant 45 = .ok (.iinc 1 1, 3) := by decide +kernel
theorem dX7_chant_48 : decode cX7_chant 48 = .ok (.goto (-24), 3) := by decide +kernel
theorem dX7_chant_51 : decode cX7_chant 51 = .ok (.aload_n 0, 1) := by decide +kernel
theorem dX7_chant_52 : decode cX7_chant 52 = .ok (.iconst 0, 1) := by decide +kernel
theorem dX7_chant_53 : decode cX7_chant 53 = .ok (.putfield 145, 3) := by decide +kernel
theorem dX7_chant_56 : decode cX7_chant 56 = .ok (.iload_n 1, 1) := by decide +kernel
theorem dX7_chant_57 : decode cX7_chant 57 = .ok (.ireturn, 1) := by decide +kernel
theorem dX7_writtenAt_0 : decode cX7_writtenAt 0 = .ok (.iload_n 2, 1) := by decide +kernel
theorem dX7_writtenAt_1 : decode cX7_writtenAt 1 = .ok (.iconst 5, 1) := by decide +kernel
theorem dX7_writtenAt_2 : decode cX7_writtenAt 2 = .ok (.idiv, 1) := by decide +kernel
theorem dX7_writtenAt_3 : decode cX7_writtenAt 3 = .ok (.istore_n 3, 1) := by decide +kernel
theorem dX7_writtenAt_4 : decode cX7_writtenAt 4 = .ok (.iload_n 3, 1) := by decide +kernel
theorem dX7_writtenAt_5 : decode cX7_writtenAt 5 = .ok (.aload_n 0, 1) := by decide +kernel
theorem dX7_writtenAt_6 : decode cX7_writtenAt 6 = .ok (.getfield 7, 3) := by decide +kernel
theorem dX7_writtenAt_9 : decode cX7_writtenAt 9 = .ok (.iconst 0, 1) := by decide +kernel
theorem dX7_writtenAt_10 : decode cX7_writtenAt 10 = .ok (.iload_n 1, 1) := by decide +kernel
theorem dX7_writtenAt_11 : decode cX7_writtenAt 11 = .ok (.iadd, 1) := by decide +kernel
theorem dX7_writtenAt_12 : decode cX7_writtenAt 12 = .ok (.iaload, 1) := by decide +kernel
theorem dX7_writtenAt_13 : decode cX7_writtenAt 13 = .ok (.if_icmp .ge 19, 3) := by decide +kernel
theorem dX7_writtenAt_16 : decode cX7_writtenAt 16 = .ok (.iload_n 2, 1) := by decide +kernel
theorem dX7_writtenAt_17 : decode cX7_writtenAt 17 = .ok (.iconst 5, 1) := by decide +kernel
theorem dX7_writtenAt_18 : decode cX7_writtenAt 18 = .ok (.aload_n 0, 1) := by decide +kernel
theorem dX7_writtenAt_19 : decode cX7_writtenAt 19 = .ok (.getfield 7, 3) := by decide +kernel
theorem dX7_writtenAt_22 : decode cX7_writtenAt 22 = .ok (.iconst 0, 1) := by decide +kernel
theorem dX7_writtenAt_23 : decode cX7_writtenAt 23 = .ok (.iload_n 1, 1) := by decide +kernel
theorem dX7_writtenAt_24 : decode cX7_writtenAt 24 = .ok (.iadd, 1) := by decide +kernel
theorem dX7_writtenAt_25 : decode cX7_writtenAt 25 = .ok (.iaload, 1) := by decide +kernel
theorem dX7_writtenAt_26 : decode cX7_writtenAt 26 = .ok (.imul, 1) := by decide +kernel
theorem dX7_writtenAt_27 : decode cX7_writtenAt 27 = .ok (.iconst 1, 1) := by decide +kernel
theorem dX7_writtenAt_28 : decode cX7_writtenAt 28 = .ok (.isub, 1) := by decide +kernel
theorem dX7_writtenAt_29 : decode cX7_writtenAt 29 = .ok (.if_icmp .ne 5, 3) := by decide +kernel
theorem dX7_writtenAt_32 : decode cX7_writtenAt 32 = .ok (.iconst (-1), 1) := by decide +kernel
theorem dX7_writtenAt_33 : decode cX7_writtenAt 33 = .ok (.ireturn, 1) := by decide +kernel
theorem dX7_writtenAt_34 : decode cX7_writtenAt 34 = .ok (.aload_n 0, 1) := by decide +kernel
theorem dX7_writtenAt_35 : decode cX7_writtenAt 35 = .ok (.getfield 7, 3) := by decide +kernel
theorem dX7_writtenAt_38 : decode cX7_writtenAt 38 = .ok (.bipush 52, 2) := by decide +kernel
theorem dX7_writtenAt_40 : decode cX7_writtenAt 40 = .ok (.bipush 6, 2) := by decide +kernel
theorem dX7_writtenAt_42 : decode cX7_writtenAt 42 = .ok (.iload_n 1, 1) := by decide +kernel
theorem dX7_writtenAt_43 : decode cX7_writtenAt 43 = .ok (.imul, 1) := by decide +kernel
theorem dX7_writtenAt_44 : decode cX7_writtenAt 44 = .ok (.iadd, 1) := by decide +kernel
theorem dX7_writtenAt_45 : decode cX7_writtenAt 45 = .ok (.iload_n 3, 1) := by decide +kernel
theorem dX7_writtenAt_46 : decode cX7_writtenAt 46 = .ok (.iadd, 1) := by decide +kernel
theorem dX7_writtenAt_47 : decode cX7_writtenAt 47 = .ok (.iaload, 1) := by decide +kernel
theorem dX7_writtenAt_48 : decode cX7_writtenAt 48 = .ok (.istore 4, 2) := by decide +kernel
theorem dX7_writtenAt_50 : decode cX7_writtenAt 50 = .ok (.iload_n 2, 1) := by decide +kernel
theorem dX7_writtenAt_51 : decode cX7_writtenAt 51 = .ok (.iconst 5, 1) := by decide +kernel
theorem dX7_writtenAt_52 : decode cX7_writtenAt 52 = .ok (.irem, 1) := by decide +kernel
theorem dX7_writtenAt_53 : decode cX7_writtenAt 53 = .ok (.tableswitch 108 0 3 #[31, 44, 60, 73], 31) := by decide +kernel
theorem dX7_writtenAt_84 : decode cX7_writtenAt 84 = .ok (.bipush 48, 2) := by decide +kernel
theorem dX7_writtenAt_86 : decode cX7_writtenAt 86 = .ok (.aload_n 0, 1) := by decide +kernel
theorem dX7_writtenAt_87 : decode cX7_writtenAt 87 = .ok (.iload_n 1, 1) := by decide +kernel
theorem dX7_writtenAt_88 : decode cX7_writtenAt 88 = .ok (.iload_n 3, 1) := by decide +kernel
theorem dX7_writtenAt_89 : decode cX7_writtenAt 89 = .ok (.invokevirtual 77, 3) := by decide +kernel
theorem dX7_writtenAt_92 : decode cX7_writtenAt 92 = .ok (.bipush 100, 2) := by decide +kernel
theorem dX7_writtenAt_94 : decode cX7_writtenAt 94 = .ok (.idiv, 1) := by decide +kernel
theorem dX7_writtenAt_95 : decode cX7_writtenAt 95 = .ok (.iadd, 1) := by decide +kernel
theorem dX7_writtenAt_96 : decode cX7_writtenAt 96 = .ok (.ireturn, 1) := by decide +kernel
theorem dX7_writtenAt_97 : decode cX7_writtenAt 97 = .ok (.bipush 48, 2) := by decide +kernel
theorem dX7_writtenAt_99 : decode cX7_writtenAt 99 = .ok (.aload_n 0, 1) := by decide +kernel
theorem dX7_writtenAt_100 : decode cX7_writtenAt 100 = .ok (.iload_n 1, 1) := by decide +kernel
theorem dX7_writtenAt_101 : decode cX7_writtenAt 101 = .ok (.iload_n 3, 1) := by decide +kernel
theorem dX7_writtenAt_102 : decode cX7_writtenAt 102 = .ok (.invokevirtual 77, 3) := by decide +kernel
theorem dX7_writtenAt_105 : decode cX7_writtenAt 105 = .ok (.bipush 10, 2) := by decide +kernel
theorem dX7_writtenAt_107 : decode cX7_writtenAt 107 = .ok (.idiv, 1) := by decide +kernel
theorem dX7_writtenAt_108 : decode cX7_writtenAt 108 = .ok (.bipush 10, 2) := by decide +kernel
theorem dX7_writtenAt_110 : decode cX7_writtenAt 110 = .ok (.irem, 1) := by decide +kernel
theorem dX7_writtenAt_111 : decode cX7_writtenAt 111 = .ok (.iadd, 1) := by decide +kernel
theorem dX7_writtenAt_112 : decode cX7_writtenAt 112 = .ok (.ireturn, 1) := by decide +kernel
theorem dX7_writtenAt_113 : decode cX7_writtenAt 113 = .ok (.bipush 48, 2) := by decide +kernel
theorem dX7_writtenAt_115 : decode cX7_writtenAt 115 = .ok (.aload_n 0, 1) := by decide +kernel
theorem dX7_writtenAt_116 : decode cX7_writtenAt 116 = .ok (.iload_n 1, 1) := by decide +kernel
theorem dX7_writtenAt_117 : decode cX7_writtenAt 117 = .ok (.iload_n 3, 1) := by decide +kernel
theorem dX7_writtenAt_118 : decode cX7_writtenAt 118 = .ok (.invokevirtual 77, 3) := by decide +kernel
theorem dX7_writtenAt_121 : decode cX7_writtenAt 121 = .ok (.bipush 10, 2) := by decide +kernel
theorem dX7_writtenAt_123 : decode cX7_writtenAt 123 = .ok (.irem, 1) := by decide +kernel
theorem dX7_writtenAt_124 : decode cX7_writtenAt 124 = .ok (.iadd, 1) := by decide +kernel
theorem dX7_writtenAt_125 : decode cX7_writtenAt 125 = .ok (.ireturn, 1) := by decide +kernel
theorem dX7_writtenAt_126 : decode cX7_writtenAt 126 = .ok (.iload 4, 2) := by decide +kernel
theorem dX7_writtenAt_128 : decode cX7_writtenAt 128 = .ok (.ifCond .ne 8, 3) := by decide +kernel
theorem dX7_writtenAt_131 : decode cX7_writtenAt 131 = .ok (.bipush 98, 2) := by decide +kernel
theorem dX7_writtenAt_133 : decode cX7_writtenAt 133 = .ok (.goto 27, 3) := by decide +kernel
theorem dX7_writtenAt_136 : decode cX7_writtenAt 136 = .ok (.iload 4, 2) := by decide +kernel
theorem dX7_writtenAt_138 : decode cX7_writtenAt 138 = .ok (.iconst 1, 1) := by decide +kernel
theorem dX7_writtenAt_139 : decode cX7_writtenAt 139 = .ok (.if_icmp .ne 8, 3) := by decide +kernel
theorem dX7_writtenAt_142 : decode cX7_writtenAt 142 = .ok (.bipush 116, 2) := by decide +kernel
theorem dX7_writtenAt_144 : decode cX7_writtenAt 144 = .ok (.goto 16, 3) := by decide +kernel
theorem dX7_writtenAt_147 : decode cX7_writtenAt 147 = .ok (.iload 4, 2) := by decide +kernel
theorem dX7_writtenAt_149 : decode cX7_writtenAt 149 = .ok (.iconst 2, 1) := by decide +kernel
theorem dX7_writtenAt_150 : decode cX7_writtenAt 150 = .ok (.if_icmp .ne 8, 3) := by decide +kernel
theorem dX7_writtenAt_153 : decode cX7_writtenAt 153 = .ok (.bipush 97, 2) := by decide +kernel
theorem dX7_writtenAt_155 : decode cX7_writtenAt 155 = .ok (.goto 5, 3) := by decide +kernel
theorem dX7_writtenAt_158 : decode cX7_writtenAt 158 = .ok (.bipush 115, 2) := by decide +kernel
theorem dX7_writtenAt_160 : decode cX7_writtenAt 160 = .ok (.ireturn, 1) := by decide +kernel
theorem dX7_writtenAt_161 : decode cX7_writtenAt 161 = .ok (.bipush 32, 2) := by decide +kernel
theorem dX7_writtenAt_163 : decode cX7_writtenAt 163 = .ok (.ireturn, 1) := by decide +kernel
theorem dX7_written_0 : decode cX7_written 0 = .ok (.aload_n 0, 1) := by decide +kernel
theorem dX7_written_1 : decode cX7_written 1 = .ok (.iconst 0, 1) := by decide +kernel
theorem dX7_written_2 : decode cX7_written 2 = .ok (.putfield 40, 3) := by decide +kernel
theorem dX7_written_5 : decode cX7_written 5 = .ok (.iload_n 1, 1) := by decide +kernel
theorem dX7_written_6 : decode cX7_written 6 = .ok (.invokestatic 48, 3) := by decide +kernel
theorem dX7_written_9 : decode cX7_written 9 = .ok (.ifCond .ne 9, 3) := by decide +kernel
theorem dX7_written_12 : decode cX7_written 12 = .ok (.aload_n 0, 1) := by decide +kernel
theorem dX7_written_13 : decode cX7_written 13 = .ok (.iconst 1, 1) := by decide +kernel
theorem dX7_written_14 : decode cX7_written 14 = .ok (.invokevirtual 55, 3) := by decide +kernel
theorem dX7_written_17 : decode cX7_written 17 = .ok (.ireturn, 1) := by decide +kernel
theorem dX7_written_18 : decode cX7_written 18 = .ok (.iload_n 2, 1) := by decide +kernel
theorem dX7_written_19 : decode cX7_written 19 = .ok (.ifCond .ge 11, 3) := by decide +kernel
theorem dX7_written_22 : decode cX7_written 22 = .ok (.aload_n 0, 1) := by decide +kernel
theorem dX7_written_23 : decode cX7_written 23 = .ok (.iconst 2, 1) := by decide +kernel
theorem dX7_written_24 : decode cX7_written 24 = .ok (.invokevirtual 55, 3) := by decide +kernel
theorem dX7_written_27 : decode cX7_written 27 = .ok (.goto 9, 3) := by decide +kernel
theorem dX7_written_30 : decode cX7_written 30 = .ok (.aload_n 0, 1) := by decide +kernel
theorem dX7_written_31 : decode cX7_written 31 = .ok (.iload_n 1, 1) := by decide +kernel
theorem dX7_written_32 : decode cX7_written 32 = .ok (.iload_n 2, 1) := by decide +kernel
theorem dX7_written_33 : decode cX7_written 33 = .ok (.invokevirtual 194, 3) := by decide +kernel
theorem dX7_written_36 : decode cX7_written 36 = .ok (.ireturn, 1) := by decide +kernel
theorem dX7_ofSinger_0 : decode cX7_ofSinger 0 = .ok (.iload_n 3, 1) := by decide +kernel
theorem dX7_ofSinger_1 : decode cX7_ofSinger 1 = .ok (.tableswitch 102 0 6 #[43, 57, 64, 79, 86, 86, 93], 43) := by decide +kernel
theorem dX7_ofSinger_44 : decode cX7_ofSinger 44 = .ok (.aload_n 0, 1) := by decide +kernel
theorem dX7_ofSinger_45 : decode cX7_ofSinger 45 = .ok (.getfield 7, 3) := by decide +kernel
theorem dX7_ofSinger_48 : decode cX7_ofSinger 48 = .ok (.iconst 4, 1) := by decide +kernel
theorem dX7_ofSinger_49 : decode cX7_ofSinger 49 = .ok (.bipush 6, 2) := by decide +kernel
theorem dX7_ofSinger_51 : decode cX7_ofSinger 51 = .ok (.iload_n 1, 1) := by decide +kernel
theorem dX7_ofSinger_52 : decode cX7_ofSinger 52 = .ok (.imul, 1) := by decide +kernel
theorem dX7_ofSinger_53 : decode cX7_ofSinger 53 = .ok (.iadd, 1) := by decide +kernel
theorem dX7_ofSinger_54 : decode cX7_ofSinger 54 = .ok (.iload_n 2, 1) := by decide +kernel
theorem dX7_ofSinger_55 : decode cX7_ofSinger 55 = .ok (.iadd, 1) := by decide +kernel
theorem dX7_ofSinger_56 : decode cX7_ofSinger 56 = .ok (.iaload, 1) := by decide +kernel
theorem dX7_ofSinger_57 : decode cX7_ofSinger 57 = .ok (.ireturn, 1) := by decide +kernel
theorem dX7_ofSinger_58 : decode cX7_ofSinger 58 = .ok (.aload_n 0, 1) := by decide +kernel
theorem dX7_ofSinger_59 : decode cX7_ofSinger 59 = .ok (.iload_n 1, 1) := by decide +kernel
theorem dX7_ofSinger_60 : decode cX7_ofSinger 60 = .ok (.iload_n 2, 1) := by decide +kernel
theorem dX7_ofSinger_61 : decode cX7_ofSinger 61 = .ok (.invokevirtual 77, 3) := by decide +kernel
theorem dX7_ofSinger_64 : decode cX7_ofSinger 64 = .ok (.ireturn, 1) := by decide +kernel
theorem dX7_ofSinger_65 : decode cX7_ofSinger 65 = .ok (.aload_n 0, 1) := by decide +kernel
theorem dX7_ofSinger_66 : decode cX7_ofSinger 66 = .ok (.getfield 7, 3) := by decide +kernel
theorem dX7_ofSinger_69 : decode cX7_ofSinger 69 = .ok (.bipush 52, 2) := by decide +kernel
theorem dX7_ofSinger_71 : decode cX7_ofSinger 71 = .ok (.bipush 6, 2) := by decide +kernel
theorem dX7_ofSinger_73 : decode cX7_ofSinger 73 = .ok (.iload_n 1, 1) := by decide +kernel
theorem dX7_ofSinger_74 : decode cX7_ofSinger 74 = .ok (.imul, 1) := by decide +kernel
theorem dX7_ofSinger_75 : decode cX7_ofSinger 75 = .ok (.iadd, 1) := by decide +kernel
theorem dX7_ofSinger_76 : decode cX7_ofSinger 76 = .ok (.iload_n 2, 1) := by decide +kernel
theorem dX7_ofSinger_77 : decode cX7_ofSinger 77 = .ok (.iadd, 1) := by decide +kernel
theorem dX7_ofSinger_78 : decode cX7_ofSinger 78 = .ok (.iaload, 1) := by decide +kernel
theorem dX7_ofSinger_79 : decode cX7_ofSinger 79 = .ok (.ireturn, 1) := by decide +kernel
theorem dX7_ofSinger_80 : decode cX7_ofSinger 80 = .ok (.aload_n 0, 1) := by decide +kernel
theorem dX7_ofSinger_81 : decode cX7_ofSinger 81 = .ok (.iload_n 1, 1) := by decide +kernel
theorem dX7_ofSinger_82 : decode cX7_ofSinger 82 = .ok (.iload_n 2, 1) := by decide +kernel
theorem dX7_ofSinger_83 : decode cX7_ofSinger 83 = .ok (.invokevirtual 197, 3) := by decide +kernel
theorem dX7_ofSinger_86 : decode cX7_ofSinger 86 = .ok (.ireturn, 1) := by decide +kernel
theorem dX7_ofSinger_87 : decode cX7_ofSinger 87 = .ok (.aload_n 0, 1) := by decide +kernel
theorem dX7_ofSinger_88 : decode cX7_ofSinger 88 = .ok (.iload_n 1, 1) := by decide +kernel
theorem dX7_ofSinger_89 : decode cX7_ofSinger 89 = .ok (.iload_n 2, 1) := by decide +kernel
theorem dX7_ofSinger_90 : decode cX7_ofSinger 90 = .ok (.invokevirtual 81, 3) := by decide +kernel
theorem dX7_ofSinger_93 : decode cX7_ofSinger 93 = .ok (.ireturn, 1) := by decide +kernel
theorem dX7_ofSinger_94 : decode cX7_ofSinger 94 = .ok (.aload_n 0, 1) := by decide +kernel
theorem dX7_ofSinger_95 : decode cX7_ofSinger 95 = .ok (.iload_n 1, 1) := by decide +kernel
theorem dX7_ofSinger_96 : decode cX7_ofSinger 96 = .ok (.iload_n 2, 1) := by decide +kernel
theorem dX7_ofSinger_97 : decode cX7_ofSinger 97 = .ok (.invokevirtual 81, 3) := by decide +kernel
theorem dX7_ofSinger_100 : decode cX7_ofSinger 100 = .ok (.iconst 2, 1) := by decide +kernel
theorem dX7_ofSinger_101 : decode cX7_ofSinger 101 = .ok (.irem, 1) := by decide +kernel
theorem dX7_ofSinger_102 : decode cX7_ofSinger 102 = .ok (.ireturn, 1) := by decide +kernel
theorem dX7_ofSinger_103 : decode cX7_ofSinger 103 = .ok (.aload_n 0, 1) := by decide +kernel
theorem dX7_ofSinger_104 : decode cX7_ofSinger 104 = .ok (.iload_n 1, 1) := by decide +kernel
theorem dX7_ofSinger_105 : decode cX7_ofSinger 105 = .ok (.iload_n 2, 1) := by decide +kernel
theorem dX7_ofSinger_106 : decode cX7_ofSinger 106 = .ok (.invokevirtual 200, 3) := by decide +kernel
theorem dX7_ofSinger_109 : decode cX7_ofSinger 109 = .ok (.ireturn, 1) := by decide +kernel
theorem dX7_singer_0 : decode cX7_singer 0 = .ok (.aload_n 0, 1) := by decide +kernel
theorem dX7_singer_1 : decode cX7_singer 1 = .ok (.iconst 0, 1) := by decide +kernel
theorem dX7_singer_2 : decode cX7_singer 2 = .ok (.putfield 40, 3) := by decide +kernel
theorem dX7_singer_5 : decode cX7_singer 5 = .ok (.aload_n 0, 1) := by decide +kernel
theorem dX7_singer_6 : decode cX7_singer 6 = .ok (.iload_n 1, 1) := by decide +kernel
theorem dX7_singer_7 : decode cX7_singer 7 = .ok (.iload_n 2, 1) := by decide +kernel
theorem dX7_singer_8 : decode cX7_singer 8 = .ok (.invokevirtual 126, 3) := by decide +kernel
theorem dX7_singer_11 : decode cX7_singer 11 = .ok (.ifCond .ne 9, 3) := by decide +kernel
theorem dX7_singer_14 : decode cX7_singer 14 = .ok (.aload_n 0, 1) := by decide +kernel
theorem dX7_singer_15 : decode cX7_singer 15 = .ok (.iconst 1, 1) := by decide +kernel
theorem dX7_singer_16 : decode cX7_singer 16 = .ok (.invokevirtual 55, 3) := by decide +kernel
theorem dX7_singer_19 : decode cX7_singer 19 = .ok (.ireturn, 1) := by decide +kernel
theorem dX7_singer_20 : decode cX7_singer 20 = .ok (.iload_n 3, 1) := by decide +kernel
theorem dX7_singer_21 : decode cX7_singer 21 = .ok (.iconst 0, 1) := by decide +kernel
theorem dX7_singer_22 : decode cX7_singer 22 = .ok (.bipush 7, 2) := by decide +kernel
theorem dX7_singer_24 : decode cX7_singer 24 = .ok (.invokestatic 44, 3) := by decide +kernel
theorem dX7_singer_27 : decode cX7_singer 27 = .ok (.ifCond .eq 13, 3) := by decide +kernel
theorem dX7_singer_30 : decode cX7_singer 30 = .ok (.aload_n 0, 1) := by decide +kernel
theorem dX7_singer_31 : decode cX7_singer 31 = .ok (.iload_n 1, 1) := by decide +kernel
theorem dX7_singer_32 : decode cX7_singer 32 = .ok (.iload_n 2, 1) := by decide +kernel
theorem dX7_singer_33 : decode cX7_singer 33 = .ok (.iload_n 3, 1) := by decide +kernel
theorem dX7_singer_34 : decode cX7_singer 34 = .ok (.invokevirtual 203, 3) := by decide +kernel
theorem dX7_singer_37 : decode cX7_singer 37 = .ok (.goto 8, 3) := by decide +kernel
theorem dX7_singer_40 : decode cX7_singer 40 = .ok (.aload_n 0, 1) := by decide +kernel
theorem dX7_singer_41 : decode cX7_singer 41 = .ok (.iconst 2, 1) := by decide +kernel
theorem dX7_singer_42 : decode cX7_singer 42 = .ok (.invokevirtual 55, 3) := by decide +kernel
theorem dX7_singer_45 : decode cX7_singer 45 = .ok (.ireturn, 1) := by decide +kernel
theorem dX7_highest_0 : decode cX7_highest 0 = .ok (.iconst (-1), 1) := by decide +kernel
theorem dX7_highest_1 : decode cX7_highest 1 = .ok (.istore_n 2, 1) := by decide +kernel
theorem dX7_highest_2 : decode cX7_highest 2 = .ok (.iconst 0, 1) := by decide +kernel
theorem dX7_highest_3 : decode cX7_highest 3 = .ok (.istore_n 3, 1) := by decide +kernel
theorem dX7_highest_4 : decode cX7_highest 4 = .ok (.iload_n 3, 1) := by decide +kernel
theorem dX7_highest_5 : decode cX7_highest 5 = .ok (.aload_n 0, 1) := by decide +kernel
theorem dX7_highest_6 : decode cX7_highest 6 = .ok (.getfield 7, 3) := by decide +kernel
theorem dX7_highest_9 : decode cX7_highest 9 = .ok (.iconst 0, 1) := by decide +kernel
theorem dX7_highest_10 : decode cX7_highest 10 = .ok (.iload_n 1, 1) := by decide +kernel
theorem dX7_highest_11 : decode cX7_highest 11 = .ok (.iadd, 1) := by decide +kernel
theorem dX7_highest_12 : decode cX7_highest 12 = .ok (.iaload, 1) := by decide +kernel
theorem dX7_highest_13 : decode cX7_highest 13 = .ok (.if_icmp .ge 30, 3) := by decide +kernel
theorem dX7_highest_16 : decode cX7_highest 16 = .ok (.aload_n 0, 1) := by decide +kernel
theorem dX7_highest_17 : decode cX7_highest 17 = .ok (.iload_n 1, 1) := by decide +kernel
theorem dX7_highest_18 : decode cX7_highest 18 = .ok (.iload_n 3, 1) := by decide +kernel
theorem dX7_highest_19 : decode cX7_highest 19 = .ok (.invokevirtual 77, 3) := by decide +kernel
theorem dX7_highest_22 : decode cX7_highest 22 = .ok (.iload_n 2, 1) := by decide +kernel
theorem dX7_highest_23 : decode cX7_highest 23 = .ok (.if_icmp .le 12, 3) := by decide +kernel
theorem dX7_highest_26 : decode cX7_highest 26 = .ok (.aload_n 0, 1) := by decide +kernel
theorem dX7_highest_27 : decode cX7_highest 27 = .ok (.iload_n 1, 1) := by decide +kernel
theorem dX7_highest_28 : decode cX7_highest 28 = .ok (.iload_n 3, 1) := by decide +kernel
theorem dX7_highest_29 : decode cX7_highest 29 = .ok (.invokevirtual 77, 3) := by decide +kernel
theorem dX7_highest_32 : decode cX7_highest 32 = .ok (.goto 4, 3) := by decide +kernel
theorem dX7_highest_35 : decode cX7_highest 35 = .ok (.iload_n 2, 1) := by decide +kernel
theorem dX7_highest_36 : decode cX7_highest 36 = .ok (.istore_n 2, 1) := by decide +kernel
theorem dX7_highest_37 : decode cX7_highest 37 = .ok (.iinc 3 1, 3) := by decide +kernel
theorem dX7_highest_40 : decode cX7_highest 40 = .ok (.goto (-36), 3) := by decide +kernel
theorem dX7_highest_43 : decode cX7_highest 43 = .ok (.iload_n 2, 1) := by decide +kernel
theorem dX7_highest_44 : decode cX7_highest 44 = .ok (.ireturn, 1) := by decide +kernel
theorem dX7_ofRow_0 : decode cX7_ofRow 0 = .ok (.iload_n 2, 1) := by decide +kernel
theorem dX7_ofRow_1 : decode cX7_ofRow 1 = .ok (.tableswitch 88 0 5 #[39, 48, 54, 60, 68, 78], 39) := by decide +kernel
theorem dX7_ofRow_40 : decode cX7_ofRow 40 = .ok (.aload_n 0, 1) := by decide +kernel
theorem dX7_ofRow_41 : decode cX7_ofRow 41 = .ok (.getfield 7, 3) := by decide +kernel
theorem dX7_ofRow_44 : decode cX7_ofRow 44 = .ok (.iconst 0, 1) := by decide +kernel
theorem dX7_ofRow_45 : decode cX7_ofRow 45 = .ok (.iload_n 1, 1) := by decide +kernel
theorem dX7_ofRow_46 : decode cX7_ofRow 46 = .ok (.iadd, 1) := by decide +kernel
theorem dX7_ofRow_47 : decode cX7_ofRow 47 = .ok (.iaload, 1) := by decide +kernel
theorem dX7_ofRow_48 : decode cX7_ofRow 48 = .ok (.ireturn, 1) := by decide +kernel
theorem dX7_ofRow_49 : decode cX7_ofRow 49 = .ok (.aload_n 0, 1) := by decide +kernel
theorem dX7_ofRow_50 : decode cX7_ofRow 50 = .ok (.iload_n 1, 1) := by decide +kernel
theorem dX7_ofRow_51 : decode cX7_ofRow 51 = .ok (.invokevirtual 84, 3) := by decide +kernel
theorem dX7_ofRow_54 : decode cX7_ofRow 54 = .ok (.ireturn, 1) := by decide +kernel
theorem dX7_ofRow_55 : decode cX7_ofRow 55 = .ok (.aload_n 0, 1) := by decide +kernel
theorem dX7_ofRow_56 : decode cX7_ofRow 56 = .ok (.iload_n 1, 1) := by decide +kernel
theorem dX7_ofRow_57 : decode cX7_ofRow 57 = .ok (.invokevirtual 142, 3) := by decide +kernel
theorem dX7_ofRow_60 : decode cX7_ofRow 60 = .ok (.ireturn, 1) := by decide +kernel
theorem dX7_ofRow_61 : decode cX7_ofRow 61 = .ok (.aload_n 0, 1) := by decide +kernel
theorem dX7_ofRow_62 : decode cX7_ofRow 62 = .ok (.iload_n 1, 1) := by decide +kernel
theorem dX7_ofRow_63 : decode cX7_ofRow 63 = .ok (.invokevirtual 142, 3) := by decide +kernel
theorem dX7_ofRow_66 : decode cX7_ofRow 66 = .ok (.iconst 2, 1) := by decide +kernel
theorem dX7_ofRow_67 : decode cX7_ofRow 67 = .ok (.irem, 1) := by decide +kernel
theorem dX7_ofRow_68 : decode cX7_ofRow 68 = .ok (.ireturn, 1) := by decide +kernel
theorem dX7_ofRow_69 : decode cX7_ofRow 69 = .ok (.aload_n 0, 1) := by decide +kernel
theorem dX7_ofRow_70 : decode cX7_ofRow 70 = .ok (.iload_n 1, 1) := by decide +kernel
theorem dX7_ofRow_71 : decode cX7_ofRow 71 = .ok (.invokevirtual 206, 3) := by decide +kernel
theorem dX7_ofRow_74 : decode cX7_ofRow 74 = .ok (.aload_n 0, 1) := by decide +kernel
theorem dX7_ofRow_75 : decode cX7_ofRow 75 = .ok (.getfield 91, 3) := by decide +kernel
theorem dX7_ofRow_78 : decode cX7_ofRow 78 = .ok (.ireturn, 1) := by decide +kernel
theorem dX7_ofRow_79 : decode cX7_ofRow 79 = .ok (.aload_n 0, 1) := by decide +kernel
theorem dX7_ofRow_80 : decode cX7_ofRow 80 = .ok (.iload_n 1, 1) := by decide +kernel
theorem dX7_ofRow_81 : decode cX7_ofRow 81 = .ok (.invokevirtual 206, 3) := by decide +kernel
theorem dX7_ofRow_84 : decode cX7_ofRow 84 = .ok (.aload_n 0, 1) := by decide +kernel
theorem dX7_ofRow_85 : decode cX7_ofRow 85 = .ok (.getfield 97, 3) := by decide +kernel
theorem dX7_ofRow_88 : decode cX7_ofRow 88 = .ok (.ireturn, 1) := by decide +kernel
theorem dX7_ofRow_89 : decode cX7_ofRow 89 = .ok (.aload_n 0, 1) := by decide +kernel
theorem dX7_ofRow_90 : decode cX7_ofRow 90 = .ok (.iload_n 1, 1) := by decide +kernel
theorem dX7_ofRow_91 : decode cX7_ofRow 91 = .ok (.invokevirtual 209, 3) := by decide +kernel
theorem dX7_ofRow_94 : decode cX7_ofRow 94 = .ok (.ireturn, 1) := by decide +kernel
theorem dX7_row_0 : decode cX7_row 0 = .ok (.aload_n 0, 1) := by decide +kernel
theorem dX7_row_1 : decode cX7_row 1 = .ok (.iconst 0, 1) := by decide +kernel
theorem dX7_row_2 : decode cX7_row 2 = .ok (.putfield 40, 3) := by decide +kernel
theorem dX7_row_5 : decode cX7_row 5 = .ok (.iload_n 1, 1) := by decide +kernel
theorem dX7_row_6 : decode cX7_row 6 = .ok (.invokestatic 48, 3) := by decide +kernel
theorem dX7_row_9 : decode cX7_row 9 = .ok (.ifCond .ne 9, 3) := by decide +kernel
theorem dX7_row_12 : decode cX7_row 12 = .ok (.aload_n 0, 1) := by decide +kernel
theorem dX7_row_13 : decode cX7_row 13 = .ok (.iconst 1, 1) := by decide +kernel
theorem dX7_row_14 : decode cX7_row 14 = .ok (.invokevirtual 55, 3) := by decide +kernel
theorem dX7_row_17 : decode cX7_row 17 = .ok (.ireturn, 1) := by decide +kernel
theorem dX7_row_18 : decode cX7_row 18 = .ok (.iload_n 2, 1) := by decide +kernel
theorem dX7_row_19 : decode cX7_row 19 = .ok (.iconst 0, 1) := by decide +kernel
theorem dX7_row_20 : decode cX7_row 20 = .ok (.bipush 6, 2) := by decide +kernel
theorem dX7_row_22 : decode cX7_row 22 = .ok (.invokestatic 44, 3) := by decide +kernel
theorem dX7_row_25 : decode cX7_row 25 = .ok (.ifCond .eq 12, 3) := by decide +kernel
theorem dX7_row_28 : decode cX7_row 28 = .ok (.aload_n 0, 1) := by decide +kernel
theorem dX7_row_29 : decode cX7_row 29 = .ok (.iload_n 1, 1) := by decide +kernel
theorem dX7_row_30 : decode cX7_row 30 = .ok (.iload_n 2, 1) := by decide +kernel
theorem dX7_row_31 : decode cX7_row 31 = .ok (.invokevirtual 212, 3) := by decide +kernel
theorem dX7_row_34 : decode cX7_row 34 = .ok (.goto 8, 3) := by decide +kernel
theorem dX7_row_37 : decode cX7_row 37 = .ok (.aload_n 0, 1) := by decide +kernel
theorem dX7_row_38 : decode cX7_row 38 = .ok (.iconst 2, 1) := by decide +kernel
theorem dX7_row_39 : decode cX7_row 39 = .ok (.invokevirtual 55, 3) := by decide +kernel
theorem dX7_row_42 : decode cX7_row 42 = .ok (.ireturn, 1) := by decide +kernel
theorem dX7_placeOf_0 : decode cX7_placeOf 0 = .ok (.iconst (-1), 1) := by decide +kernel
theorem dX7_placeOf_1 : decode cX7_placeOf 1 = .ok (.istore_n 2, 1) := by decide +kernel
theorem dX7_placeOf_2 : decode cX7_placeOf 2 = .ok (.iconst 0, 1) := by decide +kernel
theorem dX7_placeOf_3 : decode cX7_placeOf 3 = .ok (.istore_n 3, 1) := by decide +kernel
theorem dX7_placeOf_4 : decode cX7_placeOf 4 = .ok (.iload_n 3, 1) := by decide +kernel
theorem dX7_placeOf_5 : decode cX7_placeOf 5 = .ok (.iconst 4, 1) := by decide +kernel
theorem dX7_placeOf_6 : decode cX7_placeOf 6 = .ok (.if_icmp .ge 61, 3) := by decide +kernel
theorem dX7_placeOf_9 : decode cX7_placeOf 9 = .ok (.iconst 0, 1) := by decide +kernel
theorem dX7_placeOf_10 : decode cX7_placeOf 10 = .ok (.istore 4, 2) := by decide +kernel
theorem dX7_placeOf_12 : decode cX7_placeOf 12 = .ok (.iload 4, 2) := by decide +kernel
theorem dX7_placeOf_14 : decode cX7_placeOf 14 = .ok (.aload_n 0, 1) := by decide +kernel
theorem dX7_placeOf_15 : decode cX7_placeOf 15 = .ok (.getfield 7, 3) := by decide +kernel
theorem dX7_placeOf_18 : decode cX7_placeOf 18 = .ok (.iconst 0, 1) := by decide +kernel
theorem dX7_placeOf_19 : decode cX7_placeOf 19 = .ok (.iload_n 3, 1) := by decide +kernel
theorem dX7_placeOf_20 : decode cX7_placeOf 20 = .ok (.iadd, 1) := by decide +kernel
theorem dX7_placeOf_21 : decode cX7_placeOf 21 = .ok (.iaload, 1) := by decide +kernel
theorem dX7_placeOf_22 : decode cX7_placeOf 22 = .ok (.if_icmp .ge 39, 3) := by decide +kernel
theorem dX7_placeOf_25 : decode cX7_placeOf 25 = .ok (.aload_n 0, 1) := by decide +kernel
theorem dX7_placeOf_26 : decode cX7_placeOf 26 = .ok (.getfield 7, 3) := by decide +kernel
theorem dX7_placeOf_29 : decode cX7_placeOf 29 = .ok (.iconst 4, 1) := by decide +kernel
theorem dX7_placeOf_30 : decode cX7_placeOf 30 = .ok (.bipush 6, 2) := by decide +kernel
theorem dX7_placeOf_32 : decode cX7_placeOf 32 = .ok (.iload_n 3, 1) := by decide +kernel
theorem dX7_placeOf_33 : decode cX7_placeOf 33 = .ok (.imul, 1) := by decide +kernel
theorem dX7_placeOf_34 : decode cX7_placeOf 34 = .ok (.iadd, 1) := by decide +kernel
theorem dX7_placeOf_35 : decode cX7_placeOf 35 = .ok (.iload 4, 2) := by decide +kernel
theorem dX7_placeOf_37 : decode cX7_placeOf 37 = .ok (.iadd, 1) := by decide +kernel
theorem dX7_placeOf_38 : decode cX7_placeOf 38 = .ok (.iaload, 1) := by decide +kernel
theorem dX7_placeOf_39 : decode cX7_placeOf 39 = .ok (.iload_n 1, 1) := by decide +kernel
theorem dX7_placeOf_40 : decode cX7_placeOf 40 = .ok (.if_icmp .ne 13, 3) := by decide +kernel
theorem dX7_placeOf_43 : decode cX7_placeOf 43 = .ok (.bipush 6, 2) := by decide +kernel
theorem dX7_placeOf_45 : decode cX7_placeOf 45 = .ok (.iload_n 3, 1) := by decide +kernel
theorem dX7_placeOf_46 : decode cX7_placeOf 46 = .ok (.imul, 1) := by decide +kernel
theorem dX7_placeOf_47 : decode cX7_placeOf 47 = .ok (.iload 4, 2) := by decide +kernel
theorem dX7_placeOf_49 : decode cX7_placeOf 49 = .ok (.iadd, 1) := by decide +kernel
theorem dX7_placeOf_50 : decode cX7_placeOf 50 = .ok (.goto 4, 3) := by decide +kernel
theorem dX7_placeOf_53 : decode cX7_placeOf 53 = .ok (.iload_n 2, 1) := by decide +kernel
theorem dX7_placeOf_54 : decode cX7_placeOf 54 = .ok (.istore_n 2, 1) := by decide +kernel
theorem dX7_placeOf_55 : decode cX7_placeOf 55 = .ok (.iinc 4 1, 3) := by decide +kernel
theorem dX7_placeOf_58 : decode cX7_placeOf 58 = .ok (.goto (-46), 3) := by decide +kernel
theorem dX7_placeOf_61 : decode cX7_placeOf 61 = .ok (.iinc 3 1, 3) := by decide +kernel
theorem dX7_placeOf_64 : decode cX7_placeOf 64 = .ok (.goto (-60), 3) := by decide +kernel
theorem dX7_placeOf_67 : decode cX7_placeOf 67 = .ok (.iload_n 2, 1) := by decide +kernel
theorem dX7_placeOf_68 : decode cX7_placeOf 68 = .ok (.ireturn, 1) := by decide +kernel
theorem dX7_find_0 : decode cX7_find 0 = .ok (.aload_n 0, 1) := by decide +kernel
theorem dX7_find_1 : decode cX7_find 1 = .ok (.iconst 0, 1) := by decide +kernel
theorem dX7_find_2 : decode cX7_find 2 = .ok (.putfield 40, 3) := by decide +kernel
theorem dX7_find_5 : decode cX7_find 5 = .ok (.iload_n 1, 1) := by decide +kernel
theorem dX7_find_6 : decode cX7_find 6 = .ok (.ifCond .ge 11, 3) := by decide +kernel
theorem dX7_find_9 : decode cX7_find 9 = .ok (.aload_n 0, 1) := by decide +kernel
theorem dX7_find_10 : decode cX7_find 10 = .ok (.iconst 1, 1) := by decide +kernel
theorem dX7_find_11 : decode cX7_find 11 = .ok (.invokevirtual 55, 3) := by decide +kernel
theorem dX7_find_14 : decode cX7_find 14 = .ok (.goto 8, 3) := by decide +kernel
theorem dX7_find_17 : decode cX7_find 17 = .ok (.aload_n 0, 1) := by decide +kernel
theorem dX7_find_18 : decode cX7_find 18 = .ok (.iload_n 1, 1) := by decide +kernel
theorem dX7_find_19 : decode cX7_find 19 = .ok (.invokevirtual 215, 3) := by decide +kernel
theorem dX7_find_22 : decode cX7_find 22 = .ok (.ireturn, 1) := by decide +kernel
theorem dX7_number_0 : decode cX7_number 0 = .ok (.iload_n 1, 1) := by decide +kernel
theorem dX7_number_1 : decode cX7_number 1 = .ok (.tableswitch 118 0 7 #[47, 52, 57, 65, 73, 81, 105, 105], 47) := by decide +kernel
theorem dX7_number_48 : decode cX7_number 48 = .ok (.aload_n 0, 1) := by decide +kernel
theorem dX7_number_49 : decode cX7_number 49 = .ok (.invokevirtual 63, 3) := by decide +kernel
theorem dX7_number_52 : decode cX7_number 52 = .ok (.ireturn, 1) := by decide +kernel
theorem dX7_number_53 : decode cX7_number 53 = .ok (.aload_n 0, 1) := by decide +kernel
theorem dX7_number_54 : decode cX7_number 54 = .ok (.invokevirtual 133, 3) := by decide +kernel
theorem dX7_number_57 : decode cX7_number 57 = .ok (.ireturn, 1) := by decide +kernel
theorem dX7_number_58 : decode cX7_number 58 = .ok (.aload_n 0, 1) := by decide +kernel
theorem dX7_number_59 : decode cX7_number 59 = .ok (.getfield 7, 3) := by decide +kernel
theorem dX7_number_62 : decode cX7_number 62 = .ok (.bipush 78, 2) := by decide +kernel
theorem dX7_number_64 : decode cX7_number 64 = .ok (.iaload, 1) := by decide +kernel
theorem dX7_number_65 : decode cX7_number 65 = .ok (.ireturn, 1) := by decide +kernel
theorem dX7_number_66 : decode cX7_number 66 = .ok (.aload_n 0, 1) := by decide +kernel
theorem dX7_number_67 : decode cX7_number 67 = .ok (.getfield 7, 3) := by decide +kernel
theorem dX7_number_70 : decode cX7_number 70 = .ok (.bipush 79, 2) := by decide +kernel
theorem dX7_number_72 : decode cX7_number 72 = .ok (.iaload, 1) := by decide +kernel
theorem dX7_number_73 : decode cX7_number 73 = .ok (.ireturn, 1) := by decide +kernel
theorem dX7_number_74 : decode cX7_number 74 = .ok (.aload_n 0, 1) := by decide +kernel
theorem dX7_number_75 : decode cX7_number 75 = .ok (.getfield 7, 3) := by decide +kernel
theorem dX7_number_78 : decode cX7_number 78 = .ok (.bipush 80, 2) := by decide +kernel
theorem dX7_number_80 : decode cX7_number 80 = .ok (.iaload, 1) := by decide +kernel
theorem dX7_number_81 : decode cX7_number 81 = .ok (.ireturn, 1) := by decide +kernel
theorem dX7_number_82 : decode cX7_number 82 = .ok (.aload_n 0, 1) := by decide +kernel
theorem dX7_number_83 : decode cX7_number 83 = .ok (.iconst 0, 1) := by decide +kernel
theorem dX7_number_84 : decode cX7_number 84 = .ok (.invokevirtual 142, 3) := by decide +kernel
theorem dX7_number_87 : decode cX7_number 87 = .ok (.aload_n 0, 1) := by decide +kernel
theorem dX7_number_88 : decode cX7_number 88 = .ok (.iconst 1, 1) := by decide +kernel
theorem dX7_number_89 : decode cX7_number 89 = .ok (.invokevirtual 142, 3) := by decide +kernel
theorem dX7_number_92 : decode cX7_number 92 = .ok (.iadd, 1) := by decide +kernel
theorem dX7_number_93 : decode cX7_number 93 = .ok (.aload_n 0, 1) := by decide +kernel
theorem dX7_number_94 : decode cX7_number 94 = .ok (.iconst 2, 1) := by decide +kernel
theorem dX7_number_95 : decode cX7_number 95 = .ok (.invokevirtual 142, 3) := by decide +kernel
theorem dX7_number_98 : decode cX7_number 98 = .ok (.iadd, 1) := by decide +kernel
theorem dX7_number_99 : decode cX7_number 99 = .ok (.aload_n 0, 1) := by decide +kernel
theorem dX7_number_100 : decode cX7_number 100 = .ok (.iconst 3, 1) := by decide +kernel
theorem dX7_number_101 : decode cX7_number 101 = .ok (.invokevirtual 142, 3) := by decide +kernel
theorem dX7_number_104 : decode cX7_number 104 = .ok (.iadd, 1) := by decide +kernel
theorem dX7_number_105 : decode cX7_number 105 = .ok (.ireturn, 1) := by decide +kernel
theorem dX7_number_106 : decode cX7_number 106 = .ok (.aload_n 0, 1) := by decide +kernel
theorem dX7_number_107 : decode cX7_number 107 = .ok (.getfield 7, 3) := by decide +kernel
theorem dX7_number_110 : decode cX7_number 110 = .ok (.bipush 76, 2) := by decide +kernel
theorem dX7_number_112 : decode cX7_number 112 = .ok (.iload_n 1, 1) := by decide +kernel
theorem dX7_number_113 : decode cX7_number 113 = .ok (.iadd, 1) := by decide +kernel
theorem dX7_number_114 : decode cX7_number 114 = .ok (.bipush 6, 2) := by decide +kernel
theorem dX7_number_116 : decode cX7_number 116 = .ok (.isub, 1) := by decide +kernel
theorem dX7_number_117 : decode cX7_number 117 = .ok (.iaload, 1) := by decide +kernel
theorem dX7_number_118 : decode cX7_number 118 = .ok (.ireturn, 1) := by decide +kernel
theorem dX7_number_119 : decode cX7_number 119 = .ok (.aload_n 0, 1) := by decide +kernel
theorem dX7_number_120 : decode cX7_number 120 = .ok (.getfield 52, 3) := by decide +kernel
theorem dX7_number_123 : decode cX7_number 123 = .ok (.ireturn, 1) := by decide +kernel
theorem dX7_count_0 : decode cX7_count 0 = .ok (.aload_n 0, 1) := by decide +kernel
theorem dX7_count_1 : decode cX7_count 1 = .ok (.iconst 0, 1) := by decide +kernel
theorem dX7_count_2 : decode cX7_count 2 = .ok (.putfield 40, 3) := by decide +kernel
theorem dX7_count_5 : decode cX7_count 5 = .ok (.iload_n 1, 1) := by decide +kernel
theorem dX7_count_6 : decode cX7_count 6 = .ok (.iconst 0, 1) := by decide +kernel
theorem dX7_count_7 : decode cX7_count 7 = .ok (.bipush 8, 2) := by decide +kernel
theorem dX7_count_9 : decode cX7_count 9 = .ok (.invokestatic 44, 3) := by decide +kernel
theorem dX7_count_12 : decode cX7_count 12 = .ok (.ifCond .eq 11, 3) := by decide +kernel
theorem dX7_count_15 : decode cX7_count 15 = .ok (.aload_n 0, 1) := by decide +kernel
theorem dX7_count_16 : decode cX7_count 16 = .ok (.iload_n 1, 1) := by decide +kernel
theorem dX7_count_17 : decode cX7_count 17 = .ok (.invokevirtual 218, 3) := by decide +kernel
theorem dX7_count_20 : decode cX7_count 20 = .ok (.goto 8, 3) := by decide +kernel
theorem dX7_count_23 : decode cX7_count 23 = .ok (.aload_n 0, 1) := by decide +kernel
theorem dX7_count_24 : decode cX7_count 24 = .ok (.iconst 1, 1) := by decide +kernel
theorem dX7_count_25 : decode cX7_count 25 = .ok (.invokevirtual 55, 3) := by decide +kernel
theorem dX7_count_28 : decode cX7_count 28 = .ok (.ireturn, 1) := by decide +kernel
theorem dX7_oddIfSwapped_0 : decode cX7_oddIfSwapped 0 = .ok (.aload_n 0, 1) := by decide +kernel
theorem dX7_oddIfSwapped_1 : decode cX7_oddIfSwapped 1 = .ok (.iload_n 1, 1) := by decide +kernel
theorem dX7_oddIfSwapped_2 : decode cX7_oddIfSwapped 2 = .ok (.iload_n 2, 1) := by decide +kernel
theorem dX7_oddIfSwapped_3 : decode cX7_oddIfSwapped 3 = .ok (.invokevirtual 110, 3) := by decide +kernel
theorem dX7_oddIfSwapped_6 : decode cX7_oddIfSwapped 6 = .ok (.aload_n 0, 1) := by decide +kernel
theorem dX7_oddIfSwapped_7 : decode cX7_oddIfSwapped 7 = .ok (.invokevirtual 133, 3) := by decide +kernel
theorem dX7_oddIfSwapped_10 : decode cX7_oddIfSwapped 10 = .ok (.istore_n 3, 1) := by decide +kernel
theorem dX7_oddIfSwapped_11 : decode cX7_oddIfSwapped 11 = .ok (.aload_n 0, 1) := by decide +kernel
theorem dX7_oddIfSwapped_12 : decode cX7_oddIfSwapped 12 = .ok (.iload_n 1, 1) := by decide +kernel
theorem dX7_oddIfSwapped_13 : decode cX7_oddIfSwapped 13 = .ok (.iload_n 2, 1) := by decide +kernel
theorem dX7_oddIfSwapped_14 : decode cX7_oddIfSwapped 14 = .ok (.invokevirtual 110, 3) := by decide +kernel
theorem dX7_oddIfSwapped_17 : decode cX7_oddIfSwapped 17 = .ok (.iload_n 3, 1) := by decide +kernel
theorem dX7_oddIfSwapped_18 : decode cX7_oddIfSwapped 18 = .ok (.ireturn, 1) := by decide +kernel
theorem dX7_ifSwapped_0 : decode cX7_ifSwapped 0 = .ok (.aload_n 0, 1) := by decide +kernel
theorem dX7_ifSwapped_1 : decode cX7_ifSwapped 1 = .ok (.iconst 0, 1) := by decide +kernel
theorem dX7_ifSwapped_2 : decode cX7_ifSwapped 2 = .ok (.putfield 40, 3) := by decide +kernel
theorem dX7_ifSwapped_5 : decode cX7_ifSwapped 5 = .ok (.aload_n 0, 1) := by decide +kernel
theorem dX7_ifSwapped_6 : decode cX7_ifSwapped 6 = .ok (.iload_n 1, 1) := by decide +kernel
theorem dX7_ifSwapped_7 : decode cX7_ifSwapped 7 = .ok (.iload_n 2, 1) := by decide +kernel
theorem dX7_ifSwapped_8 : decode cX7_ifSwapped 8 = .ok (.invokevirtual 126, 3) := by decide +kernel
theorem dX7_ifSwapped_11 : decode cX7_ifSwapped 11 = .ok (.ifCond .eq 13, 3) := by decide +kernel
theorem dX7_ifSwapped_14 : decode cX7_ifSwapped 14 = .ok (.aload_n 0, 1) := by decide +kernel
theorem dX7_ifSwapped_15 : decode cX7_ifSwapped 15 = .ok (.iload_n 3, 1) := by decide +kernel
theorem dX7_ifSwapped_16 : decode cX7_ifSwapped 16 = .ok (.iload 4, 2) := by decide +kernel
theorem dX7_ifSwapped_18 : decode cX7_ifSwapped 18 = .ok (.invokevirtual 126, 3) := by decide +kernel
theorem dX7_ifSwapped_21 : decode cX7_ifSwapped 21 = .ok (.ifCond .ne 9, 3) := by decide +kernel
theorem dX7_ifSwapped_24 : decode cX7_ifSwapped 24 = .ok (.aload_n 0, 1) := by decide +kernel
theorem dX7_ifSwapped_25 : decode cX7_ifSwapped 25 = .ok (.iconst 1, 1) := by decide +kernel
theorem dX7_ifSwapped_26 : decode cX7_ifSwapped 26 = .ok (.invokevirtual 55, 3) := by decide +kernel
theorem dX7_ifSwapped_29 : decode cX7_ifSwapped 29 = .ok (.ireturn, 1) := by decide +kernel
theorem dX7_ifSwapped_30 : decode cX7_ifSwapped 30 = .ok (.aload_n 0, 1) := by decide +kernel
theorem dX7_ifSwapped_31 : decode cX7_ifSwapped 31 = .ok (.bipush 6, 2) := by decide +kernel
theorem dX7_ifSwapped_33 : decode cX7_ifSwapped 33 = .ok (.iload_n 1, 1) := by decide +kernel
theorem dX7_ifSwapped_34 : decode cX7_ifSwapped 34 = .ok (.imul, 1) := by decide +kernel
theorem dX7_ifSwapped_35 : decode cX7_ifSwapped 35 = .ok (.iload_n 2, 1) := by decide +kernel
theorem dX7_ifSwapped_36 : decode cX7_ifSwapped 36 = .ok (.iadd, 1) := by decide +kernel
theorem dX7_ifSwapped_37 : decode cX7_ifSwapped 37 = .ok (.bipush 6, 2) := by decide +kernel
theorem dX7_ifSwapped_39 : decode cX7_ifSwapped 39 = .ok (.iload_n 3, 1) := by decide +kernel
theorem dX7_ifSwapped_40 : decode cX7_ifSwapped 40 = .ok (.imul, 1) := by decide +kernel
theorem dX7_ifSwapped_41 : decode cX7_ifSwapped 41 = .ok (.iload 4, 2) := by decide +kernel
theorem dX7_ifSwapped_43 : decode cX7_ifSwapped 43 = .ok (.iadd, 1) := by decide +kernel
theorem dX7_ifSwapped_44 : decode cX7_ifSwapped 44 = .ok (.invokevirtual 221, 3) := by decide +kernel
theorem dX7_ifSwapped_47 : decode cX7_ifSwapped 47 = .ok (.ireturn, 1) := by decide +kernel
theorem dX7_bestOf_0 : decode cX7_bestOf 0 = .ok (.iconst (-1), 1) := by decide +kernel
theorem dX7_bestOf_1 : decode cX7_bestOf 1 = .ok (.istore_n 2, 1) := by decide +kernel
theorem dX7_bestOf_2 : decode cX7_bestOf 2 = .ok (.aload_n 0, 1) := by decide +kernel
theorem dX7_bestOf_3 : decode cX7_bestOf 3 = .ok (.invokevirtual 133, 3) := by decide +kernel
theorem dX7_bestOf_6 : decode cX7_bestOf 6 = .ok (.istore_n 3, 1) := by decide +kernel
theorem dX7_bestOf_7 : decode cX7_bestOf 7 = .ok (.iconst 0, 1) := by decide +kernel
theorem dX7_bestOf_8 : decode cX7_bestOf 8 = .ok (.istore 4, 2) := by decide +kernel
theorem dX7_bestOf_10 : decode cX7_bestOf 10 = .ok (.iload 4, 2) := by decide +kernel
theorem dX7_bestOf_12 : decode cX7_bestOf 12 = .ok (.aload_n 0, 1) := by decide +kernel
theorem dX7_bestOf_13 : decode cX7_bestOf 13 = .ok (.getfield 7, 3) := by decide +kernel
theorem dX7_bestOf_16 : decode cX7_bestOf 16 = .ok (.iconst 0, 1) := by decide +kernel
theorem dX7_bestOf_17 : decode cX7_bestOf 17 = .ok (.iload_n 1, 1) := by decide +kernel
theorem dX7_bestOf_18 : decode cX7_bestOf 18 = .ok (.iadd, 1) := by decide +kernel
theorem dX7_bestOf_19 : decode cX7_bestOf 19 = .ok (.iaload, 1) := by decide +kernel
theorem dX7_bestOf_20 : decode cX7_bestOf 20 = .ok (.if_icmp .ge 86, 3) := by decide +kernel
theorem dX7_bestOf_23 : decode cX7_bestOf 23 = .ok (.iload 4, 2) := by decide +kernel
theorem dX7_bestOf_25 : decode cX7_bestOf 25 = .ok (.iconst 1, 1) := by decide +kernel
theorem dX7_bestOf_26 : decode cX7_bestOf 26 = .ok (.iadd, 1) := by decide +kernel
theorem dX7_bestOf_27 : decode cX7_bestOf 27 = .ok (.istore 5, 2) := by decide +kernel
theorem dX7_bestOf_29 : decode cX7_bestOf 29 = .ok (.iload 5, 2) := by decide +kernel
theorem dX7_bestOf_31 : decode cX7_bestOf 31 = .ok (.aload_n 0, 1) := by decide +kernel
theorem dX7_bestOf_32 : decode cX7_bestOf 32 = .ok (.getfield 7, 3) := by decide +kernel
theorem dX7_bestOf_35 : decode cX7_bestOf 35 = .ok (.iconst 0, 1) := by decide +kernel
theorem dX7_bestOf_36 : decode cX7_bestOf 36 = .ok (.iload_n 1, 1) := by decide +kernel
theorem dX7_bestOf_37 : decode cX7_bestOf 37 = .ok (.iadd, 1) := by decide +kernel
theorem dX7_bestOf_38 : decode cX7_bestOf 38 = .ok (.iaload, 1) := by decide +kernel
theorem dX7_bestOf_39 : decode cX7_bestOf 39 = .ok (.if_icmp .ge 61, 3) := by decide +kernel
theorem dX7_bestOf_42 : decode cX7_bestOf 42 = .ok (.aload_n 0, 1) := by decide +kernel
theorem dX7_bestOf_43 : decode cX7_bestOf 43 = .ok (.bipush 6, 2) := by decide +kernel
theorem dX7_bestOf_45 : decode cX7_bestOf 45 = .ok (.iload_n 1, 1) := by decide +kernel
theorem dX7_bestOf_46 : decode cX7_bestOf 46 = .ok (.imul, 1) := by decide +kernel
theorem dX7_bestOf_47 : decode cX7_bestOf 47 = .ok (.iload 4, 2) := by decide +kernel
theorem dX7_bestOf_49 : decode cX7_bestOf 49 = .ok (.iadd, 1) := by decide +kernel
theorem dX7_bestOf_50 : decode cX7_bestOf 50 = .ok (.bipush 6, 2) := by decide +kernel
theorem dX7_bestOf_52 : decode cX7_bestOf 52 = .ok (.iload_n 1, 1) := by decide +kernel
theorem dX7_bestOf_53 : decode cX7_bestOf 53 = .ok (.imul, 1) := by decide +kernel
theorem dX7_bestOf_54 : decode cX7_bestOf 54 = .ok (.iload 5, 2) := by decide +kernel
theorem dX7_bestOf_56 : decode cX7_bestOf 56 = .ok (.iadd, 1) := by decide +kernel
theorem dX7_bestOf_57 : decode cX7_bestOf 57 = .ok (.invokevirtual 221, 3) := by decide +kernel
theorem dX7_bestOf_60 : decode cX7_bestOf 60 = .ok (.istore 6, 2) := by decide +kernel
theorem dX7_bestOf_62 : decode cX7_bestOf 62 = .ok (.iload 6, 2) := by decide +kernel
theorem dX7_bestOf_64 : decode cX7_bestOf 64 = .ok (.iload_n 3, 1) := by decide +kernel
theorem dX7_bestOf_65 : decode cX7_bestOf 65 = .ok (.if_icmp .le 14, 3) := by decide +kernel
theorem dX7_bestOf_68 : decode cX7_bestOf 68 = .ok (.bipush 6, 2) := by decide +kernel
theorem dX7_bestOf_70 : decode cX7_bestOf 70 = .ok (.iload 4, 2) := by decide +kernel
theorem dX7_bestOf_72 : decode cX7_bestOf 72 = .ok (.imul, 1) := by decide +kernel
theorem dX7_bestOf_73 : decode cX7_bestOf 73 = .ok (.iload 5, 2) := by decide +kernel
theorem dX7_bestOf_75 : decode cX7_bestOf 75 = .ok (.iadd, 1) := by decide +kernel
theorem dX7_bestOf_76 : decode cX7_bestOf 76 = .ok (.goto 4, 3) := by decide +kernel
theorem dX7_bestOf_79 : decode cX7_bestOf 79 = .ok (.iload_n 2, 1) := by decide +kernel
theorem dX7_bestOf_80 : decode cX7_bestOf 80 = .ok (.istore_n 2, 1) := by decide +kernel
theorem dX7_bestOf_81 : decode cX7_bestOf 81 = .ok (.iload 6, 2) := by decide +kernel
theorem dX7_bestOf_83 : decode cX7_bestOf 83 = .ok (.iload_n 3, 1) := by decide +kernel
theorem dX7_bestOf_84 : decode cX7_bestOf 84 = .ok (.if_icmp .le 8, 3) := by decide +kernel
theorem dX7_bestOf_87 : decode cX7_bestOf 87 = .ok (.iload 6, 2) := by decide +kernel
theorem dX7_bestOf_89 : decode cX7_bestOf 89 = .ok (.goto 4, 3) := by decide +kernel
theorem dX7_bestOf_92 : decode cX7_bestOf 92 = .ok (.iload_n 3, 1) := by decide +kernel
theorem dX7_bestOf_93 : decode cX7_bestOf 93 = .ok (.istore_n 3, 1) := by decide +kernel
theorem dX7_bestOf_94 : decode cX7_bestOf 94 = .ok (.iinc 5 1, 3) := by decide +kernel
theorem dX7_bestOf_97 : decode cX7_bestOf 97 = .ok (.goto (-68), 3) := by decide +kernel
theorem dX7_bestOf_100 : decode cX7_bestOf 100 = .ok (.iinc 4 1, 3) := by decide +kernel
theorem dX7_bestOf_103 : decode cX7_bestOf 103 = .ok (.goto (-93), 3) := by decide +kernel
theorem dX7_bestOf_106 : decode cX7_bestOf 106 = .ok (.iload_n 2, 1) := by decide +kernel
theorem dX7_bestOf_107 : decode cX7_bestOf 107 = .ok (.ireturn, 1) := by decide +kernel
theorem dX7_bestSwap_0 : decode cX7_bestSwap 0 = .ok (.aload_n 0, 1) := by decide +kernel
theorem dX7_bestSwap_1 : decode cX7_bestSwap 1 = .ok (.iconst 0, 1) := by decide +kernel
theorem dX7_bestSwap_2 : decode cX7_bestSwap 2 = .ok (.putfield 40, 3) := by decide +kernel
theorem dX7_bestSwap_5 : decode cX7_bestSwap 5 = .ok (.iload_n 1, 1) := by decide +kernel
theorem dX7_bestSwap_6 : decode cX7_bestSwap 6 = .ok (.invokestatic 48, 3) := by decide +kernel
theorem dX7_bestSwap_9 : decode cX7_bestSwap 9 = .ok (.ifCond .eq 11, 3) := by decide +kernel
theorem dX7_bestSwap_12 : decode cX7_bestSwap 12 = .ok (.aload_n 0, 1) := by decide +kernel
theorem dX7_bestSwap_13 : decode cX7_bestSwap 13 = .ok (.iload_n 1, 1) := by decide +kernel
theorem dX7_bestSwap_14 : decode cX7_bestSwap 14 = .ok (.invokevirtual 224, 3) := by decide +kernel
theorem dX7_bestSwap_17 : decode cX7_bestSwap 17 = .ok (.goto 8, 3) := by decide +kernel
theorem dX7_bestSwap_20 : decode cX7_bestSwap 20 = .ok (.aload_n 0, 1) := by decide +kernel
theorem dX7_bestSwap_21 : decode cX7_bestSwap 21 = .ok (.iconst 1, 1) := by decide +kernel
theorem dX7_bestSwap_22 : decode cX7_bestSwap 22 = .ok (.invokevirtual 55, 3) := by decide +kernel
theorem dX7_bestSwap_25 : decode cX7_bestSwap 25 = .ok (.ireturn, 1) := by decide +kernel
theorem dX7_oddWith_0 : decode cX7_oddWith 0 = .ok (.bipush 28, 2) := by decide +kernel
theorem dX7_oddWith_2 : decode cX7_oddWith 2 = .ok (.bipush 6, 2) := by decide +kernel
theorem dX7_oddWith_4 : decode cX7_oddWith 4 = .ok (.iload_n 1, 1) := by decide +kernel
theorem dX7_oddWith_5 : decode cX7_oddWith 5 = .ok (.imul, 1) := by decide +kernel
theorem dX7_oddWith_6 : decode cX7_oddWith 6 = .ok (.iadd, 1) := by decide +kernel
theorem dX7_oddWith_7 : decode cX7_oddWith 7 = .ok (.aload_n 0, 1) := by decide +kernel
theorem dX7_oddWith_8 : decode cX7_oddWith 8 = .ok (.getfield 7, 3) := by decide +kernel
theorem dX7_oddWith_11 : decode cX7_oddWith 11 = .ok (.iconst 0, 1) := by decide +kernel
theorem dX7_oddWith_12 : decode cX7_oddWith 12 = .ok (.iload_n 1, 1) := by decide +kernel
theorem dX7_oddWith_13 : decode cX7_oddWith 13 = .ok (.iadd, 1) := by decide +kernel
theorem dX7_oddWith_14 : decode cX7_oddWith 14 = .ok (.iaload, 1) := by decide +kernel
theorem dX7_oddWith_15 : decode cX7_oddWith 15 = .ok (.iadd, 1) := by decide +kernel
theorem dX7_oddWith_16 : decode cX7_oddWith 16 = .ok (.istore_n 3, 1) := by decide +kernel
theorem dX7_oddWith_17 : decode cX7_oddWith 17 = .ok (.aload_n 0, 1) := by decide +kernel
theorem dX7_oddWith_18 : decode cX7_oddWith 18 = .ok (.getfield 7, 3) := by decide +kernel
theorem dX7_oddWith_21 : decode cX7_oddWith 21 = .ok (.iload_n 3, 1) := by decide +kernel
theorem dX7_oddWith_22 : decode cX7_oddWith 22 = .ok (.iload_n 2, 1) := by decide +kernel
theorem dX7_oddWith_23 : decode cX7_oddWith 23 = .ok (.iastore, 1) := by decide +kernel
theorem dX7_oddWith_24 : decode cX7_oddWith 24 = .ok (.aload_n 0, 1) := by decide +kernel
theorem dX7_oddWith_25 : decode cX7_oddWith 25 = .ok (.getfield 7, 3) := by decide +kernel
theorem dX7_oddWith_28 : decode cX7_oddWith 28 = .ok (.iconst 0, 1) := by decide +kernel
theorem dX7_oddWith_29 : decode cX7_oddWith 29 = .ok (.iload_n 1, 1) := by decide +kernel
theorem dX7_oddWith_30 : decode cX7_oddWith 30 = .ok (.iadd, 1) := by decide +kernel
theorem dX7_oddWith_31 : decode cX7_oddWith 31 = .ok (.dup2, 1) := by decide +kernel
theorem dX7_oddWith_32 : decode cX7_oddWith 32 = .ok (.iaload, 1) := by decide +kernel
theorem dX7_oddWith_33 : decode cX7_oddWith 33 = .ok (.iconst 1, 1) := by decide +kernel
theorem dX7_oddWith_34 : decode cX7_oddWith 34 = .ok (.iadd, 1) := by decide +kernel
theorem dX7_oddWith_35 : decode cX7_oddWith 35 = .ok (.iastore, 1) := by decide +kernel
theorem dX7_oddWith_36 : decode cX7_oddWith 36 = .ok (.aload_n 0, 1) := by decide +kernel
theorem dX7_oddWith_37 : decode cX7_oddWith 37 = .ok (.invokevirtual 133, 3) := by decide +kernel
theorem dX7_oddWith_40 : decode cX7_oddWith 40 = .ok (.istore 4, 2) := by decide +kernel
theorem dX7_oddWith_42 : decode cX7_oddWith 42 = .ok (.aload_n 0, 1) := by decide +kernel
theorem dX7_oddWith_43 : decode cX7_oddWith 43 = .ok (.getfield 7, 3) := by decide +kernel
theorem dX7_oddWith_46 : decode cX7_oddWith 46 = .ok (.iconst 0, 1) := by decide +kernel
theorem dX7_oddWith_47 : decode cX7_oddWith 47 = .ok (.iload_n 1, 1) := by decide +kernel
theorem dX7_oddWith_48 : decode cX7_oddWith 48 = .ok (.iadd, 1) := by decide +kernel
theorem dX7_oddWith_49 : decode cX7_oddWith 49 = .ok (.dup2, 1) := by decide +kernel
theorem dX7_oddWith_50 : decode cX7_oddWith 50 = .ok (.iaload, 1) := by decide +kernel
theorem dX7_oddWith_51 : decode cX7_oddWith 51 = .ok (.iconst 1, 1) := by decide +kernel
theorem dX7_oddWith_52 : decode cX7_oddWith 52 = .ok (.isub, 1) := by decide +kernel
theorem dX7_oddWith_53 : decode cX7_oddWith 53 = .ok (.iastore, 1) := by decide +kernel
theorem dX7_oddWith_54 : decode cX7_oddWith 54 = .ok (.aload_n 0, 1) := by decide +kernel
theorem dX7_oddWith_55 : decode cX7_oddWith 55 = .ok (.getfield 7, 3) := by decide +kernel
theorem dX7_oddWith_58 : decode cX7_oddWith 58 = .ok (.iload_n 3, 1) := by decide +kernel
theorem dX7_oddWith_59 : decode cX7_oddWith 59 = .ok (.iconst 0, 1) := by decide +kernel
theorem dX7_oddWith_60 : decode cX7_oddWith 60 = .ok (.iastore, 1) := by decide +kernel
theorem dX7_oddWith_61 : decode cX7_oddWith 61 = .ok (.iload 4, 2) := by decide +kernel
theorem dX7_oddWith_63 : decode cX7_oddWith 63 = .ok (.ireturn, 1) := by decide +kernel
theorem dX7_bestRowFor_0 : decode cX7_bestRowFor 0 = .ok (.iconst (-1), 1) := by decide +kernel
theorem dX7_bestRowFor_1 : decode cX7_bestRowFor 1 = .ok (.istore_n 2, 1) := by decide +kernel
theorem dX7_bestRowFor_2 : decode cX7_bestRowFor 2 = .ok (.iconst (-1), 1) := by decide +kernel
theorem dX7_bestRowFor_3 : decode cX7_bestRowFor 3 = .ok (.istore_n 3, 1) := by decide +kernel
theorem dX7_bestRowFor_4 : decode cX7_bestRowFor 4 = .ok (.iconst 0, 1) := by decide +kernel
theorem dX7_bestRowFor_5 : decode cX7_bestRowFor 5 = .ok (.istore 4, 2) := by decide +kernel
theorem dX7_bestRowFor_7 : decode cX7_bestRowFor 7 = .ok (.iload 4, 2) := by decide +kernel
theorem dX7_bestRowFor_9 : decode cX7_bestRowFor 9 = .ok (.iconst 4, 1) := by decide +kernel
theorem dX7_bestRowFor_10 : decode cX7_bestRowFor 10 = .ok (.if_icmp .ge 62, 3) := by decide +kernel
theorem dX7_bestRowFor_13 : decode cX7_bestRowFor 13 = .ok (.aload_n 0, 1) := by decide +kernel
theorem dX7_bestRowFor_14 : decode cX7_bestRowFor 14 = .ok (.getfield 7, 3) := by decide +kernel
theorem dX7_bestRowFor_17 : decode cX7_bestRowFor 17 = .ok (.iconst 0, 1) := by decide +kernel
theorem dX7_bestRowFor_18 : decode cX7_bestRowFor 18 = .ok (.iload 4, 2) := by decide +kernel
theorem dX7_bestRowFor_20 : decode cX7_bestRowFor 20 = .ok (.iadd, 1) := by decide +kernel
theorem dX7_bestRowFor_21 : decode cX7_bestRowFor 21 = .ok (.iaload, 1) := by decide +kernel
theorem dX7_bestRowFor_22 : decode cX7_bestRowFor 22 = .ok (.bipush 6, 2) := by decide +kernel
theorem dX7_bestRowFor_24 : decode cX7_bestRowFor 24 = .ok (.if_icmp .ge 13, 3) := by decide +kernel
theorem dX7_bestRowFor_27 : decode cX7_bestRowFor 27 = .ok (.aload_n 0, 1) := by decide +kernel
theorem dX7_bestRowFor_28 : decode cX7_bestRowFor 28 = .ok (.iload 4, 2) := by decide +kernel
theorem dX7_bestRowFor_30 : decode cX7_bestRowFor 30 = .ok (.iload_n 1, 1) := by decide +kernel
theorem dX7_bestRowFor_31 : decode cX7_bestRowFor 31 = .ok (.invokevirtual 227, 3) := by decide +kernel
theorem dX7_bestRowFor_34 : decode cX7_bestRowFor 34 = .ok (.goto 4, 3) := by decide +kernel
theorem dX7_bestRowFor_37 : decode cX7_bestRowFor 37 = .ok (.iconst (-1), 1) := by decide +kernel
theorem dX7_bestRowFor_38 : decode cX7_bestRowFor 38 = .ok (.istore 5, 2) := by decide +kernel
theorem dX7_bestRowFor_40 : decode cX7_bestRowFor 40 = .ok (.iload 5, 2) := by decide +kernel
theorem dX7_bestRowFor_42 : decode cX7_bestRowFor 42 = .ok (.iload_n 3, 1) := by decide +kernel
theorem dX7_bestRowFor_43 : decode cX7_bestRowFor 43 = .ok (.if_icmp .le 8, 3) := by decide +kernel
theorem dX7_bestRowFor_46 : decode cX7_bestRowFor 46 = .ok (.iload 4, 2) := by decide +kernel
theorem dX7_bestRowFor_48 : decode cX7_bestRowFor 48 = .ok (.goto 4, 3) := by decide +kernel
theorem dX7_bestRowFor_51 : decode cX7_bestRowFor 51 = .ok (.iload_n 2, 1) := by decide +kernel
theorem dX7_bestRowFor_52 : decode cX7_bestRowFor 52 = .ok (.istore_n 2, 1) := by decide +kernel
theorem dX7_bestRowFor_53 : decode cX7_bestRowFor 53 = .ok (.iload 5, 2) := by decide +kernel
theorem dX7_bestRowFor_55 : decode cX7_bestRowFor 55 = .ok (.iload_n 3, 1) := by decide +kernel
theorem dX7_bestRowFor_56 : decode cX7_bestRowFor 56 = .ok (.if_icmp .le 8, 3) := by decide +kernel
theorem dX7_bestRowFor_59 : decode cX7_bestRowFor 59 = .ok (.iload 5, 2) := by decide +kernel
theorem dX7_bestRowFor_61 : decode cX7_bestRowFor 61 = .ok (.goto 4, 3) := by decide +kernel
theorem dX7_bestRowFor_64 : decode cX7_bestRowFor 64 = .ok (.iload_n 3, 1) := by decide +kernel
theorem dX7_bestRowFor_65 : decode cX7_bestRowFor 65 = .ok (.istore_n 3, 1) := by decide +kernel
theorem dX7_bestRowFor_66 : decode cX7_bestRowFor 66 = .ok (.iinc 4 1, 3) := by decide +kernel
theorem dX7_bestRowFor_69 : decode cX7_bestRowFor 69 = .ok (.goto (-62), 3) := by decide +kernel
theorem dX7_bestRowFor_72 : decode cX7_bestRowFor 72 = .ok (.iload_n 2, 1) := by decide +kernel
theorem dX7_bestRowFor_73 : decode cX7_bestRowFor 73 = .ok (.ireturn, 1) := by decide +kernel
theorem dX7_bestRow_0 : decode cX7_bestRow 0 = .ok (.aload_n 0, 1) := by decide +kernel
theorem dX7_bestRow_1 : decode cX7_bestRow 1 = .ok (.iconst 0, 1) := by decide +kernel
theorem dX7_bestRow_2 : decode cX7_bestRow 2 = .ok (.putfield 40, 3) := by decide +kernel
theorem dX7_bestRow_5 : decode cX7_bestRow 5 = .ok (.iload_n 1, 1) := by decide +kernel
theorem dX7_bestRow_6 : decode cX7_bestRow 6 = .ok (.invokestatic 116, 3) := by decide +kernel
theorem dX7_bestRow_9 : decode cX7_bestRow 9 = .ok (.ifCond .eq 11, 3) := by decide +kernel
theorem dX7_bestRow_12 : decode cX7_bestRow 12 = .ok (.aload_n 0, 1) := by decide +kernel
theorem dX7_bestRow_13 : decode cX7_bestRow 13 = .ok (.iload_n 1, 1) := by decide +kernel
theorem dX7_bestRow_14 : decode cX7_bestRow 14 = .ok (.invokevirtual 230, 3) := by decide +kernel
theorem dX7_bestRow_17 : decode cX7_bestRow 17 = .ok (.goto 8, 3) := by decide +kernel
theorem dX7_bestRow_20 : decode cX7_bestRow 20 = .ok (.aload_n 0, 1) := by decide +kernel
theorem dX7_bestRow_21 : decode cX7_bestRow 21 = .ok (.iconst 1, 1) := by decide +kernel
theorem dX7_bestRow_22 : decode cX7_bestRow 22 = .ok (.invokevirtual 55, 3) := by decide +kernel
theorem dX7_bestRow_25 : decode cX7_bestRow 25 = .ok (.ireturn, 1) := by decide +kernel
theorem dX7_oddByReach_0 : decode cX7_oddByReach 0 = .ok (.aload_n 0, 1) := by decide +kernel
theorem dX7_oddByReach_1 : decode cX7_oddByReach 1 = .ok (.getfield 7, 3) := by decide +kernel
theorem dX7_oddByReach_4 : decode cX7_oddByReach 4 = .ok (.bipush 76, 2) := by decide +kernel
theorem dX7_oddByReach_6 : decode cX7_oddByReach 6 = .ok (.iaload, 1) := by decide +kernel
theorem dX7_oddByReach_7 : decode cX7_oddByReach 7 = .ok (.istore_n 2, 1) := by decide +kernel
theorem dX7_oddByReach_8 : decode cX7_oddByReach 8 = .ok (.aload_n 0, 1) := by decide +kernel
theorem dX7_oddByReach_9 : decode cX7_oddByReach 9 = .ok (.getfield 7, 3) := by decide +kernel
theorem dX7_oddByReach_12 : decode cX7_oddByReach 12 = .ok (.bipush 76, 2) := by decide +kernel
theorem dX7_oddByReach_14 : decode cX7_oddByReach 14 = .ok (.iload_n 1, 1) := by decide +kernel
theorem dX7_oddByReach_15 : decode cX7_oddByReach 15 = .ok (.iastore, 1) := by decide +kernel
theorem dX7_oddByReach_16 : decode cX7_oddByReach 16 = .ok (.aload_n 0, 1) := by decide +kernel
theorem dX7_oddByReach_17 : decode cX7_oddByReach 17 = .ok (.invokevirtual 133, 3) := by decide +kernel
theorem dX7_oddByReach_20 : decode cX7_oddByReach 20 = .ok (.istore_n 3, 1) := by decide +kernel
theorem dX7_oddByReach_21 : decode cX7_oddByReach 21 = .ok (.aload_n 0, 1) := by decide +kernel
theorem dX7_oddByReach_22 : decode cX7_oddByReach 22 = .ok (.getfield 7, 3) := by decide +kernel
theorem dX7_oddByReach_25 : decode cX7_oddByReach 25 = .ok (.bipush 76, 2) := by decide +kernel
theorem dX7_oddByReach_27 : decode cX7_oddByReach 27 = .ok (.iload_n 2, 1) := by decide +kernel
theorem dX7_oddByReach_28 : decode cX7_oddByReach 28 = .ok (.iastore, 1) := by decide +kernel
theorem dX7_oddByReach_29 : decode cX7_oddByReach 29 = .ok (.iload_n 3, 1) := by decide +kernel
theorem dX7_oddByReach_30 : decode cX7_oddByReach 30 = .ok (.ireturn, 1) := by decide +kernel
theorem dX7_ifReach_0 : decode cX7_ifReach 0 = .ok (.aload_n 0, 1) := by decide +kernel
theorem dX7_ifReach_1 : decode cX7_ifReach 1 = .ok (.iconst 0, 1) := by decide +kernel
theorem dX7_ifReach_2 : decode cX7_ifReach 2 = .ok (.putfield 40, 3) := by decide +kernel
theorem dX7_ifReach_5 : decode cX7_ifReach 5 = .ok (.iload_n 1, 1) := by decide +kernel
theorem dX7_ifReach_6 : decode cX7_ifReach 6 = .ok (.iconst 1, 1) := by decide +kernel
theorem dX7_ifReach_7 : decode cX7_ifReach 7 = .ok (.bipush 6, 2) := by decide +kernel
theorem dX7_ifReach_9 : decode cX7_ifReach 9 = .ok (.invokestatic 44, 3) := by decide +kernel
theorem dX7_ifReach_12 : decode cX7_ifReach 12 = .ok (.ifCond .eq 11, 3) := by decide +kernel
theorem dX7_ifReach_15 : decode cX7_ifReach 15 = .ok (.aload_n 0, 1) := by decide +kernel
theorem dX7_ifReach_16 : decode cX7_ifReach 16 = .ok (.iload_n 1, 1) := by decide +kernel
theorem dX7_ifReach_17 : decode cX7_ifReach 17 = .ok (.invokevirtual 233, 3) := by decide +kernel
theorem dX7_ifReach_20 : decode cX7_ifReach 20 = .ok (.goto 8, 3) := by decide +kernel
theorem dX7_ifReach_23 : decode cX7_ifReach 23 = .ok (.aload_n 0, 1) := by decide +kernel
theorem dX7_ifReach_24 : decode cX7_ifReach 24 = .ok (.iconst 1, 1) := by decide +kernel
theorem dX7_ifReach_25 : decode cX7_ifReach 25 = .ok (.invokevirtual 55, 3) := by decide +kernel
theorem dX7_ifReach_28 : decode cX7_ifReach 28 = .ok (.ireturn, 1) := by decide +kernel
theorem dX7_share_0 : decode cX7_share 0 = .ok (.aload_n 0, 1) := by decide +kernel
theorem dX7_share_1 : decode cX7_share 1 = .ok (.invokevirtual 63, 3) := by decide +kernel
theorem dX7_share_4 : decode cX7_share 4 = .ok (.ifCond .ne 7, 3) := by decide +kernel
theorem dX7_share_7 : decode cX7_share 7 = .ok (.dconst 1, 1) := by decide +kernel
theorem dX7_share_8 : decode cX7_share 8 = .ok (.goto 14, 3) := by decide +kernel
theorem dX7_share_11 : decode cX7_share 11 = .ok (.aload_n 0, 1) := by decide +kernel
theorem dX7_share_12 : decode cX7_share 12 = .ok (.invokevirtual 133, 3) := by decide +kernel
theorem dX7_share_15 : decode cX7_share 15 = .ok (.i2d, 1) := by decide +kernel
theorem dX7_share_16 : decode cX7_share 16 = .ok (.aload_n 0, 1) := by decide +kernel
theorem dX7_share_17 : decode cX7_share 17 = .ok (.invokevirtual 63, 3) := by decide +kernel
theorem dX7_share_20 : decode cX7_share 20 = .ok (.i2d, 1) := by decide +kernel
theorem dX7_share_21 : decode cX7_share 21 = .ok (.ddiv, 1) := by decide +kernel
theorem dX7_share_22 : decode cX7_share 22 = .ok (.dreturn, 1) := by decide +kernel
theorem dX7_oddShare_0 : decode cX7_oddShare 0 = .ok (.aload_n 0, 1) := by decide +kernel
theorem dX7_oddShare_1 : decode cX7_oddShare 1 = .ok (.iconst 0, 1) := by decide +kernel
theorem dX7_oddShare_2 : decode cX7_oddShare 2 = .ok (.putfield 40, 3) := by decide +kernel
theorem dX7_oddShare_5 : decode cX7_oddShare 5 = .ok (.aload_n 0, 1) := by decide +kernel
theorem dX7_oddShare_6 : decode cX7_oddShare 6 = .ok (.invokevirtual 236, 3) := by decide +kernel
theorem dX7_oddShare_9 : decode cX7_oddShare 9 = .ok (.dreturn, 1) := by decide +kernel
theorem dX7_mix_0 : decode cX7_mix 0 = .ok (.aload_n 0, 1) := by decide +kernel
theorem dX7_mix_1 : decode cX7_mix 1 = .ok (.ldc2_w 240, 3) := by decide +kernel
theorem dX7_mix_4 : decode cX7_mix 4 = .ok (.aload_n 0, 1) := by decide +kernel
theorem dX7_mix_5 : decode cX7_mix 5 = .ok (.getfield 242, 3) := by decide +kernel
theorem dX7_mix_8 : decode cX7_mix 8 = .ok (.lmul, 1) := by decide +kernel
theorem dX7_mix_9 : decode cX7_mix 9 = .ok (.lload_n 1, 1) := by decide +kernel
theorem dX7_mix_10 : decode cX7_mix 10 = .ok (.ladd, 1) := by decide +kernel
theorem dX7_mix_11 : decode cX7_mix 11 = .ok (.putfield 242, 3) := by decide +kernel
theorem dX7_mix_14 : decode cX7_mix 14 = .ok (.return_, 1) := by decide +kernel
theorem dX7_mixRow_0 : decode cX7_mixRow 0 = .ok (.iconst 0, 1) := by decide +kernel
theorem dX7_mixRow_1 : decode cX7_mixRow 1 = .ok (.istore_n 2, 1) := by decide +kernel
theorem dX7_mixRow_2 : decode cX7_mixRow 2 = .ok (.iload_n 2, 1) := by decide +kernel
theorem dX7_mixRow_3 : decode cX7_mixRow 3 = .ok (.bipush 7, 2) := by decide +kernel
theorem dX7_mixRow_5 : decode cX7_mixRow 5 = .ok (.if_icmp .ge 20, 3) := by decide +kernel
theorem dX7_mixRow_8 : decode cX7_mixRow 8 = .ok (.aload_n 0, 1) := by decide +kernel
theorem dX7_mixRow_9 : decode cX7_mixRow 9 = .ok (.aload_n 0, 1) := by decide +kernel
theorem dX7_mixRow_10 : decode cX7_mixRow 10 = .ok (.iload_n 1, 1) := by decide +kernel
theorem dX7_mixRow_11 : decode cX7_mixRow 11 = .ok (.iload_n 2, 1) := by decide +kernel
theorem dX7_mixRow_12 : decode cX7_mixRow 12 = .ok (.invokevirtual 212, 3) := by decide +kernel
theorem dX7_mixRow_15 : decode cX7_mixRow 15 = .ok (.i2l, 1) := by decide +kernel
theorem dX7_mixRow_16 : decode cX7_mixRow 16 = .ok (.invokevirtual 246, 3) := by decide +kernel
theorem dX7_mixRow_19 : decode cX7_mixRow 19 = .ok (.iinc 2 1, 3) := by decide +kernel
theorem dX7_mixRow_22 : decode cX7_mixRow 22 = .ok (.goto (-20), 3) := by decide +kernel
theorem dX7_mixRow_25 : decode cX7_mixRow 25 = .ok (.iconst 0, 1) := by decide +kernel
theorem dX7_mixRow_26 : decode cX7_mixRow 26 = .ok (.istore_n 2, 1) := by decide +kernel
theorem dX7_mixRow_27 : decode cX7_mixRow 27 = .ok (.iload_n 2, 1) := by decide +kernel
theorem dX7_mixRow_28 : decode cX7_mixRow 28 = .ok (.aload_n 0, 1) := by decide +kernel
theorem dX7_mixRow_29 : decode cX7_mixRow 29 = .ok (.getfield 7, 3) := by decide +kernel
theorem dX7_mixRow_32 : decode cX7_mixRow 32 = .ok (.iconst 0, 1) := by decide +kernel
theorem dX7_mixRow_33 : decode cX7_mixRow 33 = .ok (.iload_n 1, 1) := by decide +kernel
theorem dX7_mixRow_34 : decode cX7_mixRow 34 = .ok (.iadd, 1) := by decide +kernel
theorem dX7_mixRow_35 : decode cX7_mixRow 35 = .ok (.iaload, 1) := by decide +kernel
theorem dX7_mixRow_36 : decode cX7_mixRow 36 = .ok (.if_icmp .ge 35, 3) := by decide +kernel
theorem dX7_mixRow_39 : decode cX7_mixRow 39 = .ok (.iconst 0, 1) := by decide +kernel
theorem dX7_mixRow_40 : decode cX7_mixRow 40 = .ok (.istore_n 3, 1) := by decide +kernel
theorem dX7_mixRow_41 : decode cX7_mixRow 41 = .ok (.iload_n 3, 1) := by decide +kernel
theorem dX7_mixRow_42 : decode cX7_mixRow 42 = .ok (.bipush 8, 2) := by decide +kernel
theorem dX7_mixRow_44 : decode cX7_mixRow 44 = .ok (.if_icmp .ge 21, 3) := by decide +kernel
theorem dX7_mixRow_47 : decode cX7_mixRow 47 = .ok (.aload_n 0, 1) := by decide +kernel
theorem dX7_mixRow_48 : decode cX7_mixRow 48 = .ok (.aload_n 0, 1) := by decide +kernel
theorem dX7_mixRow_49 : decode cX7_mixRow 49 = .ok (.iload_n 1, 1) := by decide +kernel
theorem dX7_mixRow_50 : decode cX7_mixRow 50 = .ok (.iload_n 2, 1) := by decide +kernel
theorem dX7_mixRow_51 : decode cX7_mixRow 51 = .ok (.iload_n 3, 1) := by decide +kernel
theorem dX7_mixRow_52 : decode cX7_mixRow 52 = .ok (.invokevirtual 203, 3) := by decide +kernel
theorem dX7_mixRow_55 : decode cX7_mixRow 55 = .ok (.i2l, 1) := by decide +kernel
theorem dX7_mixRow_56 : decode cX7_mixRow 56 = .ok (.invokevirtual 246, 3) := by decide +kernel
theorem dX7_mixRow_59 : decode cX7_mixRow 59 = .ok (.iinc 3 1, 3) := by decide +kernel
theorem dX7_mixRow_62 : decode cX7_mixRow 62 = .ok (.goto (-21), 3) := by decide +kernel
theorem dX7_mixRow_65 : decode cX7_mixRow 65 = .ok (.iinc 2 1, 3) := by decide +kernel
theorem dX7_mixRow_68 : decode cX7_mixRow 68 = .ok (.goto (-41), 3) := by decide +kernel
theorem dX7_mixRow_71 : decode cX7_mixRow 71 = .ok (.aload_n 0, 1) := by decide +kernel
theorem dX7_mixRow_72 : decode cX7_mixRow 72 = .ok (.aload_n 0, 1) := by decide +kernel
theorem dX7_mixRow_73 : decode cX7_mixRow 73 = .ok (.iload_n 1, 1) := by decide +kernel
theorem dX7_mixRow_74 : decode cX7_mixRow 74 = .ok (.invokevirtual 224, 3) := by decide +kernel
theorem dX7_mixRow_77 : decode cX7_mixRow 77 = .ok (.i2l, 1) := by decide +kernel
theorem dX7_mixRow_78 : decode cX7_mixRow 78 = .ok (.invokevirtual 246, 3) := by decide +kernel
theorem dX7_mixRow_81 : decode cX7_mixRow 81 = .ok (.iconst 0, 1) := by decide +kernel
theorem dX7_mixRow_82 : decode cX7_mixRow 82 = .ok (.istore_n 2, 1) := by decide +kernel
theorem dX7_mixRow_83 : decode cX7_mixRow 83 = .ok (.aload_n 0, 1) := by decide +kernel
theorem dX7_mixRow_84 : decode cX7_mixRow 84 = .ok (.iload_n 1, 1) := by decide +kernel
theorem dX7_mixRow_85 : decode cX7_mixRow 85 = .ok (.iload_n 2, 1) := by decide +kernel
theorem dX7_mixRow_86 : decode cX7_mixRow 86 = .ok (.invokevirtual 194, 3) := by decide +kernel
theorem dX7_mixRow_89 : decode cX7_mixRow 89 = .ok (.iconst (-1), 1) := by decide +kernel
theorem dX7_mixRow_90 : decode cX7_mixRow 90 = .ok (.if_icmp .eq 20, 3) := by decide +kernel
theorem dX7_mixRow_93 : decode cX7_mixRow 93 = .ok (.aload_n 0, 1) := by decide +kernel
theorem dX7_mixRow_94 : decode cX7_mixRow 94 = .ok (.aload_n 0, 1) := by decide +kernel
theorem dX7_mixRow_95 : decode cX7_mixRow 95 = .ok (.iload_n 1, 1) := by decide +kernel
theorem dX7_mixRow_96 : decode cX7_mixRow 96 = .ok (.iload_n 2, 1) := by decide +kernel
theorem dX7_mixRow_97 : decode cX7_mixRow 97 = .ok (.invokevirtual 194, 3) := by decide +kernel
theorem dX7_mixRow_100 : decode cX7_mixRow 100 = .ok (.i2l, 1) := by decide +kernel
theorem dX7_mixRow_101 : decode cX7_mixRow 101 = .ok (.invokevirtual 246, 3) := by decide +kernel
theorem dX7_mixRow_104 : decode cX7_mixRow 104 = .ok (.iinc 2 1, 3) := by decide +kernel
theorem dX7_mixRow_107 : decode cX7_mixRow 107 = .ok (.goto (-24), 3) := by decide +kernel
theorem dX7_mixRow_110 : decode cX7_mixRow 110 = .ok (.return_, 1) := by decide +kernel
theorem dX7_digest_0 : decode cX7_digest 0 = .ok (.aload_n 0, 1) := by decide +kernel
theorem dX7_digest_1 : decode cX7_digest 1 = .ok (.iconst 0, 1) := by decide +kernel
theorem dX7_digest_2 : decode cX7_digest 2 = .ok (.putfield 40, 3) := by decide +kernel
theorem dX7_digest_5 : decode cX7_digest 5 = .ok (.aload_n 0, 1) := by decide +kernel
theorem dX7_digest_6 : decode cX7_digest 6 = .ok (.ldc2_w 250, 3) := by decide +kernel
theorem dX7_digest_9 : decode cX7_digest 9 = .ok (.putfield 242, 3) := by decide +kernel
theorem dX7_digest_12 : decode cX7_digest 12 = .ok (.iconst 0, 1) := by decide +kernel
theorem dX7_digest_13 : decode cX7_digest 13 = .ok (.istore_n 1, 1) := by decide +kernel
theorem dX7_digest_14 : decode cX7_digest 14 = .ok (.iload_n 1, 1) := by decide +kernel
theorem dX7_digest_15 : decode cX7_digest 15 = .ok (.bipush 9, 2) := by decide +kernel
theorem dX7_digest_17 : decode cX7_digest 17 = .ok (.if_icmp .ge 19, 3) := by decide +kernel
theorem dX7_digest_20 : decode cX7_digest 20 = .ok (.aload_n 0, 1) := by decide +kernel
theorem dX7_digest_21 : decode cX7_digest 21 = .ok (.aload_n 0, 1) := by decide +kernel
theorem dX7_digest_22 : decode cX7_digest 22 = .ok (.iload_n 1, 1) := by decide +kernel
theorem dX7_digest_23 : decode cX7_digest 23 = .ok (.invokevirtual 218, 3) := by decide +kernel
theorem dX7_digest_26 : decode cX7_digest 26 = .ok (.i2l, 1) := by decide +kernel
theorem dX7_digest_27 : decode cX7_digest 27 = .ok (.invokevirtual 246, 3) := by decide +kernel
theorem dX7_digest_30 : decode cX7_digest 30 = .ok (.iinc 1 1, 3) := by decide +kernel
theorem dX7_digest_33 : decode cX7_digest 33 = .ok (.goto (-19), 3) := by decide +kernel
theorem dX7_digest_36 : decode cX7_digest 36 = .ok (.iconst 0, 1) := by decide +kernel
theorem dX7_digest_37 : decode cX7_digest 37 = .ok (.istore_n 1, 1) := by decide +kernel
theorem dX7_digest_38 : decode cX7_digest 38 = .ok (.iload_n 1, 1) := by decide +kernel
theorem dX7_digest_39 : decode cX7_digest 39 = .ok (.iconst 4, 1) := by decide +kernel
theorem dX7_digest_40 : decode cX7_digest 40 = .ok (.if_icmp .ge 14, 3) := by decide +kernel
theorem dX7_digest_43 : decode cX7_digest 43 = .ok (.aload_n 0, 1) := by decide +kernel
theorem dX7_digest_44 : decode cX7_digest 44 = .ok (.iload_n 1, 1) := by decide +kernel
theorem dX7_digest_45 : decode cX7_digest 45 = .ok (.invokevirtual 252, 3) := by decide +kernel
theorem dX7_digest_48 : decode cX7_digest 48 = .ok (.iinc 1 1, 3) := by decide +kernel
theorem dX7_digest_51 : decode cX7_digest 51 = .ok (.goto (-13), 3) := by decide +kernel
theorem dX7_digest_54 : decode cX7_digest 54 = .ok (.aload_n 0, 1) := by decide +kernel
theorem dX7_digest_55 : decode cX7_digest 55 = .ok (.aload_n 0, 1) := by decide +kernel
theorem dX7_digest_56 : decode cX7_digest 56 = .ok (.sipush 160, 3) := by decide +kernel
theorem dX7_digest_59 : decode cX7_digest 59 = .ok (.invokevirtual 230, 3) := by decide +kernel
theorem dX7_digest_62 : decode cX7_digest 62 = .ok (.i2l, 1) := by decide +kernel
theorem dX7_digest_63 : decode cX7_digest 63 = .ok (.invokevirtual 246, 3) := by decide +kernel
theorem dX7_digest_66 : decode cX7_digest 66 = .ok (.iconst 1, 1) := by decide +kernel
theorem dX7_digest_67 : decode cX7_digest 67 = .ok (.istore_n 1, 1) := by decide +kernel
theorem dX7_digest_68 : decode cX7_digest 68 = .ok (.iload_n 1, 1) := by decide +kernel
theorem dX7_digest_69 : decode cX7_digest 69 = .ok (.bipush 7, 2) := by decide +kernel
theorem dX7_digest_71 : decode cX7_digest 71 = .ok (.if_icmp .ge 19, 3) := by decide +kernel
theorem dX7_digest_74 : decode cX7_digest 74 = .ok (.aload_n 0, 1) := by decide +kernel
theorem dX7_digest_75 : decode cX7_digest 75 = .ok (.aload_n 0, 1) := by decide +kernel
theorem dX7_digest_76 : decode cX7_digest 76 = .ok (.iload_n 1, 1) := by decide +kernel
theorem dX7_digest_77 : decode cX7_digest 77 = .ok (.invokevirtual 233, 3) := by decide +kernel
theorem dX7_digest_80 : decode cX7_digest 80 = .ok (.i2l, 1) := by decide +kernel
theorem dX7_digest_81 : decode cX7_digest 81 = .ok (.invokevirtual 246, 3) := by decide +kernel
theorem dX7_digest_84 : decode cX7_digest 84 = .ok (.iinc 1 1, 3) := by decide +kernel
theorem dX7_digest_87 : decode cX7_digest 87 = .ok (.goto (-19), 3) := by decide +kernel
theorem dX7_digest_90 : decode cX7_digest 90 = .ok (.aload_n 0, 1) := by decide +kernel
theorem dX7_digest_91 : decode cX7_digest 91 = .ok (.aload_n 0, 1) := by decide +kernel
theorem dX7_digest_92 : decode cX7_digest 92 = .ok (.invokevirtual 236, 3) := by decide +kernel
theorem dX7_digest_95 : decode cX7_digest 95 = .ok (.invokestatic 255, 3) := by decide +kernel
theorem dX7_digest_98 : decode cX7_digest 98 = .ok (.invokevirtual 246, 3) := by decide +kernel
theorem dX7_digest_101 : decode cX7_digest 101 = .ok (.aload_n 0, 1) := by decide +kernel
theorem dX7_digest_102 : decode cX7_digest 102 = .ok (.aload_n 0, 1) := by decide +kernel
theorem dX7_digest_103 : decode cX7_digest 103 = .ok (.getfield 145, 3) := by decide +kernel
theorem dX7_digest_106 : decode cX7_digest 106 = .ok (.i2l, 1) := by decide +kernel
theorem dX7_digest_107 : decode cX7_digest 107 = .ok (.invokevirtual 246, 3) := by decide +kernel
theorem dX7_digest_110 : decode cX7_digest 110 = .ok (.iconst 0, 1) := by decide +kernel
theorem dX7_digest_111 : decode cX7_digest 111 = .ok (.istore_n 1, 1) := by decide +kernel
theorem dX7_digest_112 : decode cX7_digest 112 = .ok (.iload_n 1, 1) := by decide +kernel
theorem dX7_digest_113 : decode cX7_digest 113 = .ok (.aload_n 0, 1) := by decide +kernel
theorem dX7_digest_114 : decode cX7_digest 114 = .ok (.getfield 145, 3) := by decide +kernel
theorem dX7_digest_117 : decode cX7_digest 117 = .ok (.if_icmp .ge 20, 3) := by decide +kernel
theorem dX7_digest_120 : decode cX7_digest 120 = .ok (.aload_n 0, 1) := by decide +kernel
theorem dX7_digest_121 : decode cX7_digest 121 = .ok (.aload_n 0, 1) := by decide +kernel
theorem dX7_digest_122 : decode cX7_digest 122 = .ok (.getfield 25, 3) := by decide +kernel
theorem dX7_digest_125 : decode cX7_digest 125 = .ok (.iload_n 1, 1) := by decide +kernel
theorem dX7_digest_126 : decode cX7_digest 126 = .ok (.iaload, 1) := by decide +kernel
theorem dX7_digest_127 : decode cX7_digest 127 = .ok (.i2l, 1) := by decide +kernel
theorem dX7_digest_128 : decode cX7_digest 128 = .ok (.invokevirtual 246, 3) := by decide +kernel
theorem dX7_digest_131 : decode cX7_digest 131 = .ok (.iinc 1 1, 3) := by decide +kernel
theorem dX7_digest_134 : decode cX7_digest 134 = .ok (.goto (-22), 3) := by decide +kernel
theorem dX7_digest_137 : decode cX7_digest 137 = .ok (.aload_n 0, 1) := by decide +kernel
theorem dX7_digest_138 : decode cX7_digest 138 = .ok (.getfield 242, 3) := by decide +kernel
theorem dX7_digest_141 : decode cX7_digest 141 = .ok (.lreturn, 1) := by decide +kernel
theorem dJ11_isValidCodePoint_9a6ad_0 : decode cJ11_isValidCodePoint_9a6ad 0 = .ok (.iload_n 0, 1) := by decide +kernel
theorem dJ11_isValidCodePoint_9a6ad_1 : decode cJ11_isValidCodePoint_9a6ad 1 = .ok (.bipush 16, 2) := by decide +kernel
theorem dJ11_isValidCodePoint_9a6ad_3 : decode cJ11_isValidCodePoint_9a6ad 3 = .ok (.iushr, 1) := by decide +kernel
theorem dJ11_isValidCodePoint_9a6ad_4 : decode cJ11_isValidCodePoint_9a6ad 4 = .ok (.istore_n 1, 1) := by decide +kernel
theorem dJ11_isValidCodePoint_9a6ad_5 : decode cJ11_isValidCodePoint_9a6ad 5 = .ok (.iload_n 1, 1) := by decide +kernel
theorem dJ11_isValidCodePoint_9a6ad_6 : decode cJ11_isValidCodePoint_9a6ad 6 = .ok (.bipush 17, 2) := by decide +kernel
theorem dJ11_isValidCodePoint_9a6ad_8 : decode cJ11_isValidCodePoint_9a6ad 8 = .ok (.if_icmp .ge 7, 3) := by decide +kernel
theorem dJ11_isValidCodePoint_9a6ad_11 : decode cJ11_isValidCodePoint_9a6ad 11 = .ok (.iconst 1, 1) := by decide +kernel
theorem dJ11_isValidCodePoint_9a6ad_12 : decode cJ11_isValidCodePoint_9a6ad 12 = .ok (.goto 4, 3) := by decide +kernel
theorem dJ11_isValidCodePoint_9a6ad_15 : decode cJ11_isValidCodePoint_9a6ad 15 = .ok (.iconst 0, 1) := by decide +kernel
theorem dJ11_isValidCodePoint_9a6ad_16 : decode cJ11_isValidCodePoint_9a6ad 16 = .ok (.ireturn, 1) := by decide +kernel
theorem dJ11_highSurrogate_5068e_0 : decode cJ11_highSurrogate_5068e 0 = .ok (.iload_n 0, 1) := by decide +kernel
theorem dJ11_highSurrogate_5068e_1 : decode cJ11_highSurrogate_5068e 1 = .ok (.bipush 10, 2) := by decide +kernel
theorem dJ11_highSurrogate_5068e_3 : decode cJ11_highSurrogate_5068e 3 = .ok (.iushr, 1) := by decide +kernel
theorem dJ11_highSurrogate_5068e_4 : decode cJ11_highSurrogate_5068e 4 = .ok (.ldc 110, 2) := by decide +kernel
theorem dJ11_highSurrogate_5068e_6 : decode cJ11_highSurrogate_5068e 6 = .ok (.iadd, 1) := by decide +kernel
theorem dJ11_highSurrogate_5068e_7 : decode cJ11_highSurrogate_5068e 7 = .ok (.i2c, 1) := by decide +kernel
theorem dJ11_highSurrogate_5068e_8 : decode cJ11_highSurrogate_5068e 8 = .ok (.ireturn, 1) := by decide +kernel
theorem dJ11_lowSurrogate_5068e_0 : decode cJ11_lowSurrogate_5068e 0 = .ok (.iload_n 0, 1) := by decide +kernel
theorem dJ11_lowSurrogate_5068e_1 : decode cJ11_lowSurrogate_5068e 1 = .ok (.sipush 1023, 3) := by decide +kernel
theorem dJ11_lowSurrogate_5068e_4 : decode cJ11_lowSurrogate_5068e 4 = .ok (.iand, 1) := by decide +kernel
theorem dJ11_lowSurrogate_5068e_5 : decode cJ11_lowSurrogate_5068e 5 = .ok (.ldc 76, 2) := by decide +kernel
theorem dJ11_lowSurrogate_5068e_7 : decode cJ11_lowSurrogate_5068e 7 = .ok (.iadd, 1) := by decide +kernel
theorem dJ11_lowSurrogate_5068e_8 : decode cJ11_lowSurrogate_5068e 8 = .ok (.i2c, 1) := by decide +kernel
theorem dJ11_lowSurrogate_5068e_9 : decode cJ11_lowSurrogate_5068e 9 = .ok (.ireturn, 1) := by decide +kernel
theorem dJxe99ae_isNaN_b9ae7_0 : decode cJxe99ae_isNaN_b9ae7 0 = .ok (.dload_n 0, 1) := by decide +kernel
theorem dJxe99ae_isNaN_b9ae7_1 : decode cJxe99ae_isNaN_b9ae7 1 = .ok (.dload_n 0, 1) := by decide +kernel
theorem dJxe99ae_isNaN_b9ae7_2 : decode cJxe99ae_isNaN_b9ae7 2 = .ok (.dcmp .l, 1) := by decide +kernel
theorem dJxe99ae_isNaN_b9ae7_3 : decode cJxe99ae_isNaN_b9ae7 3 = .ok (.ifCond .eq 7, 3) := by decide +kernel
theorem dJxe99ae_isNaN_b9ae7_6 : decode cJxe99ae_isNaN_b9ae7 6 = .ok (.iconst 1, 1) := by decide +kernel
theorem dJxe99ae_isNaN_b9ae7_7 : decode cJxe99ae_isNaN_b9ae7 7 = .ok (.goto 4, 3) := by decide +kernel
theorem dJxe99ae_isNaN_b9ae7_10 : decode cJxe99ae_isNaN_b9ae7 10 = .ok (.iconst 0, 1) := by decide +kernel
theorem dJxe99ae_isNaN_b9ae7_11 : decode cJxe99ae_isNaN_b9ae7 11 = .ok (.ireturn, 1) := by decide +kernel
theorem dJxe99ae_doubleToLongBits_ccdee_0 : decode cJxe99ae_doubleToLongBits_ccdee 0 = .ok (.dload_n 0, 1) := by decide +kernel
theorem dJxe99ae_doubleToLongBits_ccdee_1 : decode cJxe99ae_doubleToLongBits_ccdee 1 = .ok (.invokestatic 122, 3) := by decide +kernel
theorem dJxe99ae_doubleToLongBits_ccdee_4 : decode cJxe99ae_doubleToLongBits_ccdee 4 = .ok (.ifCond .ne 8, 3) := by decide +kernel
theorem dJxe99ae_doubleToLongBits_ccdee_7 : decode cJxe99ae_doubleToLongBits_ccdee 7 = .ok (.dload_n 0, 1) := by decide +kernel
theorem dJxe99ae_doubleToLongBits_ccdee_8 : decode cJxe99ae_doubleToLongBits_ccdee 8 = .ok (.invokestatic 134, 3) := by decide +kernel
theorem dJxe99ae_doubleToLongBits_ccdee_11 : decode cJxe99ae_doubleToLongBits_ccdee 11 = .ok (.lreturn, 1) := by decide +kernel
theorem dJxe99ae_doubleToLongBits_ccdee_12 : decode cJxe99ae_doubleToLongBits_ccdee 12 = .ok (.ldc2_w 137, 3) := by decide +kernel
theorem dJxe99ae_doubleToLongBits_ccdee_15 : decode cJxe99ae_doubleToLongBits_ccdee 15 = .ok (.lreturn, 1) := by decide +kernel
theorem dJ6_bitCount_0f7a4_0 : decode cJ6_bitCount_0f7a4 0 = .ok (.iload_n 0, 1) := by decide +kernel
theorem dJ6_bitCount_0f7a4_1 : decode cJ6_bitCount_0f7a4 1 = .ok (.iload_n 0, 1) := by decide +kernel
theorem dJ6_bitCount_0f7a4_2 : decode cJ6_bitCount_0f7a4 2 = .ok (.iconst 1, 1) := by decide +kernel
theorem dJ6_bitCount_0f7a4_3 : decode cJ6_bitCount_0f7a4 3 = .ok (.iushr, 1) := by decide +kernel
theorem dJ6_bitCount_0f7a4_4 : decode cJ6_bitCount_0f7a4 4 = .ok (.ldc_w 265, 3) := by decide +kernel
theorem dJ6_bitCount_0f7a4_7 : decode cJ6_bitCount_0f7a4 7 = .ok (.iand, 1) := by decide +kernel
theorem dJ6_bitCount_0f7a4_8 : decode cJ6_bitCount_0f7a4 8 = .ok (.isub, 1) := by decide +kernel
theorem dJ6_bitCount_0f7a4_9 : decode cJ6_bitCount_0f7a4 9 = .ok (.istore_n 0, 1) := by decide +kernel
theorem dJ6_bitCount_0f7a4_10 : decode cJ6_bitCount_0f7a4 10 = .ok (.iload_n 0, 1) := by decide +kernel
theorem dJ6_bitCount_0f7a4_11 : decode cJ6_bitCount_0f7a4 11 = .ok (.ldc_w 266, 3) := by decide +kernel
theorem dJ6_bitCount_0f7a4_14 : decode cJ6_bitCount_0f7a4 14 = .ok (.iand, 1) := by decide +kernel
theorem dJ6_bitCount_0f7a4_15 : decode cJ6_bitCount_0f7a4 15 = .ok (.iload_n 0, 1) := by decide +kernel
theorem dJ6_bitCount_0f7a4_16 : decode cJ6_bitCount_0f7a4 16 = .ok (.iconst 2, 1) := by decide +kernel
theorem dJ6_bitCount_0f7a4_17 : decode cJ6_bitCount_0f7a4 17 = .ok (.iushr, 1) := by decide +kernel
theorem dJ6_bitCount_0f7a4_18 : decode cJ6_bitCount_0f7a4 18 = .ok (.ldc_w 266, 3) := by decide +kernel
theorem dJ6_bitCount_0f7a4_21 : decode cJ6_bitCount_0f7a4 21 = .ok (.iand, 1) := by decide +kernel
theorem dJ6_bitCount_0f7a4_22 : decode cJ6_bitCount_0f7a4 22 = .ok (.iadd, 1) := by decide +kernel
theorem dJ6_bitCount_0f7a4_23 : decode cJ6_bitCount_0f7a4 23 = .ok (.istore_n 0, 1) := by decide +kernel
theorem dJ6_bitCount_0f7a4_24 : decode cJ6_bitCount_0f7a4 24 = .ok (.iload_n 0, 1) := by decide +kernel
theorem dJ6_bitCount_0f7a4_25 : decode cJ6_bitCount_0f7a4 25 = .ok (.iload_n 0, 1) := by decide +kernel
theorem dJ6_bitCount_0f7a4_26 : decode cJ6_bitCount_0f7a4 26 = .ok (.iconst 4, 1) := by decide +kernel
theorem dJ6_bitCount_0f7a4_27 : decode cJ6_bitCount_0f7a4 27 = .ok (.iushr, 1) := by decide +kernel
theorem dJ6_bitCount_0f7a4_28 : decode cJ6_bitCount_0f7a4 28 = .ok (.iadd, 1) := by decide +kernel
theorem dJ6_bitCount_0f7a4_29 : decode cJ6_bitCount_0f7a4 29 = .ok (.ldc_w 267, 3) := by decide +kernel
theorem dJ6_bitCount_0f7a4_32 : decode cJ6_bitCount_0f7a4 32 = .ok (.iand, 1) := by decide +kernel
theorem dJ6_bitCount_0f7a4_33 : decode cJ6_bitCount_0f7a4 33 = .ok (.istore_n 0, 1) := by decide +kernel
theorem dJ6_bitCount_0f7a4_34 : decode cJ6_bitCount_0f7a4 34 = .ok (.iload_n 0, 1) := by decide +kernel
theorem dJ6_bitCount_0f7a4_35 : decode cJ6_bitCount_0f7a4 35 = .ok (.iload_n 0, 1) := by decide +kernel
theorem dJ6_bitCount_0f7a4_36 : decode cJ6_bitCount_0f7a4 36 = .ok (.bipush 8, 2) := by decide +kernel
theorem dJ6_bitCount_0f7a4_38 : decode cJ6_bitCount_0f7a4 38 = .ok (.iushr, 1) := by decide +kernel
theorem dJ6_bitCount_0f7a4_39 : decode cJ6_bitCount_0f7a4 39 = .ok (.iadd, 1) := by decide +kernel
theorem dJ6_bitCount_0f7a4_40 : decode cJ6_bitCount_0f7a4 40 = .ok (.istore_n 0, 1) := by decide +kernel
theorem dJ6_bitCount_0f7a4_41 : decode cJ6_bitCount_0f7a4 41 = .ok (.iload_n 0, 1) := by decide +kernel
theorem dJ6_bitCount_0f7a4_42 : decode cJ6_bitCount_0f7a4 42 = .ok (.iload_n 0, 1) := by decide +kernel
theorem dJ6_bitCount_0f7a4_43 : decode cJ6_bitCount_0f7a4 43 = .ok (.bipush 16, 2) := by decide +kernel
theorem dJ6_bitCount_0f7a4_45 : decode cJ6_bitCount_0f7a4 45 = .ok (.iushr, 1) := by decide +kernel
theorem dJ6_bitCount_0f7a4_46 : decode cJ6_bitCount_0f7a4 46 = .ok (.iadd, 1) := by decide +kernel
theorem dJ6_bitCount_0f7a4_47 : decode cJ6_bitCount_0f7a4 47 = .ok (.istore_n 0, 1) := by decide +kernel
theorem dJ6_bitCount_0f7a4_48 : decode cJ6_bitCount_0f7a4 48 = .ok (.iload_n 0, 1) := by decide +kernel
theorem dJ6_bitCount_0f7a4_49 : decode cJ6_bitCount_0f7a4 49 = .ok (.bipush 63, 2) := by decide +kernel
theorem dJ6_bitCount_0f7a4_51 : decode cJ6_bitCount_0f7a4 51 = .ok (.iand, 1) := by decide +kernel
theorem dJ6_bitCount_0f7a4_52 : decode cJ6_bitCount_0f7a4 52 = .ok (.ireturn, 1) := by decide +kernel
theorem dJ9_floorMod_7cf53_0 : decode cJ9_floorMod_7cf53 0 = .ok (.iload_n 0, 1) := by decide +kernel
theorem dJ9_floorMod_7cf53_1 : decode cJ9_floorMod_7cf53 1 = .ok (.iload_n 1, 1) := by decide +kernel
theorem dJ9_floorMod_7cf53_2 : decode cJ9_floorMod_7cf53 2 = .ok (.irem, 1) := by decide +kernel
theorem dJ9_floorMod_7cf53_3 : decode cJ9_floorMod_7cf53 3 = .ok (.istore_n 2, 1) := by decide +kernel
theorem dJ9_floorMod_7cf53_4 : decode cJ9_floorMod_7cf53 4 = .ok (.iload_n 0, 1) := by decide +kernel
theorem dJ9_floorMod_7cf53_5 : decode cJ9_floorMod_7cf53 5 = .ok (.iload_n 1, 1) := by decide +kernel
theorem dJ9_floorMod_7cf53_6 : decode cJ9_floorMod_7cf53 6 = .ok (.ixor, 1) := by decide +kernel
theorem dJ9_floorMod_7cf53_7 : decode cJ9_floorMod_7cf53 7 = .ok (.ifCond .ge 11, 3) := by decide +kernel
theorem dJ9_floorMod_7cf53_10 : decode cJ9_floorMod_7cf53 10 = .ok (.iload_n 2, 1) := by decide +kernel
theorem dJ9_floorMod_7cf53_11 : decode cJ9_floorMod_7cf53 11 = .ok (.ifCond .eq 7, 3) := by decide +kernel
theorem dJ9_floorMod_7cf53_14 : decode cJ9_floorMod_7cf53 14 = .ok (.iload_n 2, 1) := by decide +kernel
theorem dJ9_floorMod_7cf53_15 : decode cJ9_floorMod_7cf53 15 = .ok (.iload_n 1, 1) := by decide +kernel
theorem dJ9_floorMod_7cf53_16 : decode cJ9_floorMod_7cf53 16 = .ok (.iadd, 1) := by decide +kernel
theorem dJ9_floorMod_7cf53_17 : decode cJ9_floorMod_7cf53 17 = .ok (.ireturn, 1) := by decide +kernel
theorem dJ9_floorMod_7cf53_18 : decode cJ9_floorMod_7cf53 18 = .ok (.iload_n 2, 1) := by decide +kernel
theorem dJ9_floorMod_7cf53_19 : decode cJ9_floorMod_7cf53 19 = .ok (.ireturn, 1) := by decide +kernel
theorem dJ9_max_7cf53_0 : decode cJ9_max_7cf53 0 = .ok (.iload_n 0, 1) := by decide +kernel
theorem dJ9_max_7cf53_1 : decode cJ9_max_7cf53 1 = .ok (.iload_n 1, 1) := by decide +kernel
theorem dJ9_max_7cf53_2 : decode cJ9_max_7cf53 2 = .ok (.if_icmp .lt 7, 3) := by decide +kernel
theorem dJ9_max_7cf53_5 : decode cJ9_max_7cf53 5 = .ok (.iload_n 0, 1) := by decide +kernel
theorem dJ9_max_7cf53_6 : decode cJ9_max_7cf53 6 = .ok (.goto 4, 3) := by decide +kernel
theorem dJ9_max_7cf53_9 : decode cJ9_max_7cf53 9 = .ok (.iload_n 1, 1) := by decide +kernel
theorem dJ9_max_7cf53_10 : decode cJ9_max_7cf53 10 = .ok (.ireturn, 1) := by decide +kernel
theorem dJ9_min_7cf53_0 : decode cJ9_min_7cf53 0 = .ok (.iload_n 0, 1) := by decide +kernel
theorem dJ9_min_7cf53_1 : decode cJ9_min_7cf53 1 = .ok (.iload_n 1, 1) := by decide +kernel
theorem dJ9_min_7cf53_2 : decode cJ9_min_7cf53 2 = .ok (.if_icmp .gt 7, 3) := by decide +kernel
theorem dJ9_min_7cf53_5 : decode cJ9_min_7cf53 5 = .ok (.iload_n 0, 1) := by decide +kernel
theorem dJ9_min_7cf53_6 : decode cJ9_min_7cf53 6 = .ok (.goto 4, 3) := by decide +kernel
theorem dJ9_min_7cf53_9 : decode cJ9_min_7cf53 9 = .ok (.iload_n 1, 1) := by decide +kernel
theorem dJ9_min_7cf53_10 : decode cJ9_min_7cf53 10 = .ok (.ireturn, 1) := by decide +kernel
theorem dJ0_length_8abf5_0 : decode cJ0_length_8abf5 0 = .ok (.aload_n 0, 1) := by decide +kernel
theorem dJ0_length_8abf5_1 : decode cJ0_length_8abf5 1 = .ok (.getfield 9, 3) := by decide +kernel
theorem dJ0_length_8abf5_4 : decode cJ0_length_8abf5 4 = .ok (.arraylength, 1) := by decide +kernel
theorem dJ0_length_8abf5_5 : decode cJ0_length_8abf5 5 = .ok (.aload_n 0, 1) := by decide +kernel
theorem dJ0_length_8abf5_6 : decode cJ0_length_8abf5 6 = .ok (.invokevirtual 335, 3) := by decide +kernel
theorem dJ0_length_8abf5_9 : decode cJ0_length_8abf5 9 = .ok (.ishr, 1) := by decide +kernel
theorem dJ0_length_8abf5_10 : decode cJ0_length_8abf5 10 = .ok (.ireturn, 1) := by decide +kernel
theorem dJ0_charAt_5068e_0 : decode cJ0_charAt_5068e 0 = .ok (.aload_n 0, 1) := by decide +kernel
theorem dJ0_charAt_5068e_1 : decode cJ0_charAt_5068e 1 = .ok (.invokevirtual 492, 3) := by decide +kernel
theorem dJ0_charAt_5068e_4 : decode cJ0_charAt_5068e 4 = .ok (.ifCond .eq 12, 3) := by decide +kernel
theorem dJ0_charAt_5068e_7 : decode cJ0_charAt_5068e 7 = .ok (.aload_n 0, 1) := by decide +kernel
theorem dJ0_charAt_5068e_8 : decode cJ0_charAt_5068e 8 = .ok (.getfield 9, 3) := by decide +kernel
theorem dJ0_charAt_5068e_11 : decode cJ0_charAt_5068e 11 = .ok (.iload_n 1, 1) := by decide +kernel
theorem dJ0_charAt_5068e_12 : decode cJ0_charAt_5068e 12 = .ok (.invokestatic 495, 3) := by decide +kernel
theorem dJ0_charAt_5068e_15 : decode cJ0_charAt_5068e 15 = .ok (.ireturn, 1) := by decide +kernel
theorem dJ0_charAt_5068e_16 : decode cJ0_charAt_5068e 16 = .ok (.aload_n 0, 1) := by decide +kernel
theorem dJ0_charAt_5068e_17 : decode cJ0_charAt_5068e 17 = .ok (.getfield 9, 3) := by decide +kernel
theorem dJ0_charAt_5068e_20 : decode cJ0_charAt_5068e 20 = .ok (.iload_n 1, 1) := by decide +kernel
theorem dJ0_charAt_5068e_21 : decode cJ0_charAt_5068e 21 = .ok (.invokestatic 498, 3) := by decide +kernel
theorem dJ0_charAt_5068e_24 : decode cJ0_charAt_5068e 24 = .ok (.ireturn, 1) := by decide +kernel
theorem dJ0_indexOf_0f7a4_0 : decode cJ0_indexOf_0f7a4 0 = .ok (.aload_n 0, 1) := by decide +kernel
theorem dJ0_indexOf_0f7a4_1 : decode cJ0_indexOf_0f7a4 1 = .ok (.iload_n 1, 1) := by decide +kernel
theorem dJ0_indexOf_0f7a4_2 : decode cJ0_indexOf_0f7a4 2 = .ok (.iconst 0, 1) := by decide +kernel
theorem dJ0_indexOf_0f7a4_3 : decode cJ0_indexOf_0f7a4 3 = .ok (.invokevirtual 633, 3) := by decide +kernel
theorem dJ0_indexOf_0f7a4_6 : decode cJ0_indexOf_0f7a4 6 = .ok (.ireturn, 1) := by decide +kernel
theorem dJ0_indexOf_7cf53_0 : decode cJ0_indexOf_7cf53 0 = .ok (.aload_n 0, 1) := by decide +kernel
theorem dJ0_indexOf_7cf53_1 : decode cJ0_indexOf_7cf53 1 = .ok (.invokevirtual 492, 3) := by decide +kernel
theorem dJ0_indexOf_7cf53_4 : decode cJ0_indexOf_7cf53 4 = .ok (.ifCond .eq 19, 3) := by decide +kernel
theorem dJ0_indexOf_7cf53_7 : decode cJ0_indexOf_7cf53 7 = .ok (.aload_n 0, 1) := by decide +kernel
theorem dJ0_indexOf_7cf53_8 : decode cJ0_indexOf_7cf53 8 = .ok (.getfield 9, 3) := by decide +kernel
theorem dJ0_indexOf_7cf53_11 : decode cJ0_indexOf_7cf53 11 = .ok (.iload_n 1, 1) := by decide +kernel
theorem dJ0_indexOf_7cf53_12 : decode cJ0_indexOf_7cf53 12 = .ok (.iload_n 2, 1) := by decide +kernel
theorem dJ0_indexOf_7cf53_13 : decode cJ0_indexOf_7cf53 13 = .ok (.aload_n 0, 1) := by decide +kernel
theorem dJ0_indexOf_7cf53_14 : decode cJ0_indexOf_7cf53 14 = .ok (.invokevirtual 505, 3) := by decide +kernel
theorem dJ0_indexOf_7cf53_17 : decode cJ0_indexOf_7cf53 17 = .ok (.invokestatic 637, 3) := by decide +kernel
theorem dJ0_indexOf_7cf53_20 : decode cJ0_indexOf_7cf53 20 = .ok (.goto 16, 3) := by decide +kernel
theorem dJ0_indexOf_7cf53_23 : decode cJ0_indexOf_7cf53 23 = .ok (.aload_n 0, 1) := by decide +kernel
theorem dJ0_indexOf_7cf53_24 : decode cJ0_indexOf_7cf53 24 = .ok (.getfield 9, 3) := by decide +kernel
theorem dJ0_indexOf_7cf53_27 : decode cJ0_indexOf_7cf53 27 = .ok (.iload_n 1, 1) := by decide +kernel
theorem dJ0_indexOf_7cf53_28 : decode cJ0_indexOf_7cf53 28 = .ok (.iload_n 2, 1) := by decide +kernel
theorem dJ0_indexOf_7cf53_29 : decode cJ0_indexOf_7cf53 29 = .ok (.aload_n 0, 1) := by decide +kernel
theorem dJ0_indexOf_7cf53_30 : decode cJ0_indexOf_7cf53 30 = .ok (.invokevirtual 505, 3) := by decide +kernel
theorem dJ0_indexOf_7cf53_33 : decode cJ0_indexOf_7cf53 33 = .ok (.invokestatic 640, 3) := by decide +kernel
theorem dJ0_indexOf_7cf53_36 : decode cJ0_indexOf_7cf53 36 = .ok (.ireturn, 1) := by decide +kernel
theorem dJ0_coder_7d493_0 : decode cJ0_coder_7d493 0 = .ok (.getstatic 38, 3) := by decide +kernel
theorem dJ0_coder_7d493_3 : decode cJ0_coder_7d493 3 = .ok (.ifCond .eq 10, 3) := by decide +kernel
theorem dJ0_coder_7d493_6 : decode cJ0_coder_7d493 6 = .ok (.aload_n 0, 1) := by decide +kernel
theorem dJ0_coder_7d493_7 : decode cJ0_coder_7d493 7 = .ok (.getfield 15, 3) := by decide +kernel
theorem dJ0_coder_7d493_10 : decode cJ0_coder_7d493 10 = .ok (.goto 4, 3) := by decide +kernel
theorem dJ0_coder_7d493_13 : decode cJ0_coder_7d493 13 = .ok (.iconst 1, 1) := by decide +kernel
theorem dJ0_coder_7d493_14 : decode cJ0_coder_7d493 14 = .ok (.ireturn, 1) := by decide +kernel
theorem dJ0_isLatin1_aae02_0 : decode cJ0_isLatin1_aae02 0 = .ok (.getstatic 38, 3) := by decide +kernel
theorem dJ0_isLatin1_aae02_3 : decode cJ0_isLatin1_aae02 3 = .ok (.ifCond .eq 14, 3) := by decide +kernel
theorem dJ0_isLatin1_aae02_6 : decode cJ0_isLatin1_aae02 6 = .ok (.aload_n 0, 1) := by decide +kernel
theorem dJ0_isLatin1_aae02_7 : decode cJ0_isLatin1_aae02 7 = .ok (.getfield 15, 3) := by decide +kernel
theorem dJ0_isLatin1_aae02_10 : decode cJ0_isLatin1_aae02 10 = .ok (.ifCond .ne 7, 3) := by decide +kernel
theorem dJ0_isLatin1_aae02_13 : decode cJ0_isLatin1_aae02 13 = .ok (.iconst 1, 1) := by decide +kernel
theorem dJ0_isLatin1_aae02_14 : decode cJ0_isLatin1_aae02 14 = .ok (.goto 4, 3) := by decide +kernel
theorem dJ0_isLatin1_aae02_17 : decode cJ0_isLatin1_aae02 17 = .ok (.iconst 0, 1) := by decide +kernel
theorem dJ0_isLatin1_aae02_18 : decode cJ0_isLatin1_aae02 18 = .ok (.ireturn, 1) := by decide +kernel
theorem dJ0_checkIndex_df160_0 : decode cJ0_checkIndex_df160 0 = .ok (.iload_n 0, 1) := by decide +kernel
theorem dJ0_checkIndex_df160_1 : decode cJ0_checkIndex_df160 1 = .ok (.iload_n 1, 1) := by decide +kernel
theorem dJ0_checkIndex_df160_2 : decode cJ0_checkIndex_df160 2 = .ok (.getstatic 1053, 3) := by decide +kernel
theorem dJ0_checkIndex_df160_5 : decode cJ0_checkIndex_df160 5 = .ok (.invokestatic 1059, 3) := by decide +kernel
theorem dJ0_checkIndex_df160_8 : decode cJ0_checkIndex_df160 8 = .ok (.pop, 1) := by decide +kernel
theorem dJ0_checkIndex_df160_9 : decode cJ0_checkIndex_df160 9 = .ok (.return_, 1) := by decide +kernel
theorem dJ0_checkBoundsBeginEnd_23922_0 : decode cJ0_checkBoundsBeginEnd_23922 0 = .ok (.iload_n 0, 1) := by decide +kernel
theorem dJ0_checkBoundsBeginEnd_23922_1 : decode cJ0_checkBoundsBeginEnd_23922 1 = .ok (.iload_n 1, 1) := by decide +kernel
theorem dJ0_checkBoundsBeginEnd_23922_2 : decode cJ0_checkBoundsBeginEnd_23922 2 = .ok (.iload_n 2, 1) := by decide +kernel
theorem dJ0_checkBoundsBeginEnd_23922_3 : decode cJ0_checkBoundsBeginEnd_23922 3 = .ok (.getstatic 1053, 3) := by decide +kernel
theorem dJ0_checkBoundsBeginEnd_23922_6 : decode cJ0_checkBoundsBeginEnd_23922 6 = .ok (.invokestatic 1062, 3) := by decide +kernel
theorem dJ0_checkBoundsBeginEnd_23922_9 : decode cJ0_checkBoundsBeginEnd_23922 9 = .ok (.pop, 1) := by decide +kernel
theorem dJ0_checkBoundsBeginEnd_23922_10 : decode cJ0_checkBoundsBeginEnd_23922 10 = .ok (.return_, 1) := by decide +kernel
theorem dJ1_charAt_3b067_0 : decode cJ1_charAt_3b067 0 = .ok (.iload_n 1, 1) := by decide +kernel
theorem dJ1_charAt_3b067_1 : decode cJ1_charAt_3b067 1 = .ok (.aload_n 0, 1) := by decide +kernel
theorem dJ1_charAt_3b067_2 : decode cJ1_charAt_3b067 2 = .ok (.arraylength, 1) := by decide +kernel
theorem dJ1_charAt_3b067_3 : decode cJ1_charAt_3b067 3 = .ok (.invokestatic 9, 3) := by decide +kernel
theorem dJ1_charAt_3b067_6 : decode cJ1_charAt_3b067 6 = .ok (.aload_n 0, 1) := by decide +kernel
theorem dJ1_charAt_3b067_7 : decode cJ1_charAt_3b067 7 = .ok (.iload_n 1, 1) := by decide +kernel
theorem dJ1_charAt_3b067_8 : decode cJ1_charAt_3b067 8 = .ok (.baload, 1) := by decide +kernel
theorem dJ1_charAt_3b067_9 : decode cJ1_charAt_3b067 9 = .ok (.sipush 255, 3) := by decide +kernel
theorem dJ1_charAt_3b067_12 : decode cJ1_charAt_3b067 12 = .ok (.iand, 1) := by decide +kernel
theorem dJ1_charAt_3b067_13 : decode cJ1_charAt_3b067 13 = .ok (.i2c, 1) := by decide +kernel
theorem dJ1_charAt_3b067_14 : decode cJ1_charAt_3b067 14 = .ok (.ireturn, 1) := by decide +kernel
theorem dJ1_canEncode_9a6ad_0 : decode cJ1_canEncode_9a6ad 0 = .ok (.iload_n 0, 1) := by decide +kernel
theorem dJ1_canEncode_9a6ad_1 : decode cJ1_canEncode_9a6ad 1 = .ok (.ifCond .lt 14, 3) := by decide +kernel
theorem dJ1_canEncode_9a6ad_4 : decode cJ1_canEncode_9a6ad 4 = .ok (.iload_n 0, 1) := by decide +kernel
theorem dJ1_canEncode_9a6ad_5 : decode cJ1_canEncode_9a6ad 5 = .ok (.sipush 255, 3) := by decide +kernel
theorem dJ1_canEncode_9a6ad_8 : decode cJ1_canEncode_9a6ad 8 = .ok (.if_icmp .gt 7, 3) := by decide +kernel
theorem dJ1_canEncode_9a6ad_11 : decode cJ1_canEncode_9a6ad 11 = .ok (.iconst 1, 1) := by decide +kernel
theorem dJ1_canEncode_9a6ad_12 : decode cJ1_canEncode_9a6ad 12 = .ok (.goto 4, 3) := by decide +kernel
theorem dJ1_canEncode_9a6ad_15 : decode cJ1_canEncode_9a6ad 15 = .ok (.iconst 0, 1) := by decide +kernel
theorem dJ1_canEncode_9a6ad_16 : decode cJ1_canEncode_9a6ad 16 = .ok (.ireturn, 1) := by decide +kernel
theorem dJ1_indexOf_4cfef_0 : decode cJ1_indexOf_4cfef 0 = .ok (.iload_n 1, 1) := by decide +kernel
theorem dJ1_indexOf_4cfef_1 : decode cJ1_indexOf_4cfef 1 = .ok (.invokestatic 88, 3) := by decide +kernel
theorem dJ1_indexOf_4cfef_4 : decode cJ1_indexOf_4cfef 4 = .ok (.ifCond .ne 5, 3) := by decide +kernel
theorem dJ1_indexOf_4cfef_7 : decode cJ1_indexOf_4cfef 7 = .ok (.iconst (-1), 1) := by decide +kernel
theorem dJ1_indexOf_4cfef_8 : decode cJ1_indexOf_4cfef 8 = .ok (.ireturn, 1) := by decide +kernel
theorem dJ1_indexOf_4cfef_9 : decode cJ1_indexOf_4cfef 9 = .ok (.iload_n 2, 1) := by decide +kernel
theorem dJ1_indexOf_4cfef_10 : decode cJ1_indexOf_4cfef 10 = .ok (.iconst 0, 1) := by decide +kernel
theorem dJ1_indexOf_4cfef_11 : decode cJ1_indexOf_4cfef 11 = .ok (.invokestatic 92, 3) := by decide +kernel
theorem dJ1_indexOf_4cfef_14 : decode cJ1_indexOf_4cfef 14 = .ok (.istore_n 2, 1) := by decide +kernel
theorem dJ1_indexOf_4cfef_15 : decode cJ1_indexOf_4cfef 15 = .ok (.iload_n 3, 1) := by decide +kernel
theorem dJ1_indexOf_4cfef_16 : decode cJ1_indexOf_4cfef 16 = .ok (.aload_n 0, 1) := by decide +kernel
theorem dJ1_indexOf_4cfef_17 : decode cJ1_indexOf_4cfef 17 = .ok (.arraylength, 1) := by decide +kernel
theorem dJ1_indexOf_4cfef_18 : decode cJ1_indexOf_4cfef 18 = .ok (.invokestatic 38, 3) := by decide +kernel
theorem dJ1_indexOf_4cfef_21 : decode cJ1_indexOf_4cfef 21 = .ok (.istore_n 3, 1) := by decide +kernel
theorem dJ1_indexOf_4cfef_22 : decode cJ1_indexOf_4cfef 22 = .ok (.iload_n 2, 1) := by decide +kernel
theorem dJ1_indexOf_4cfef_23 : decode cJ1_indexOf_4cfef 23 = .ok (.iload_n 3, 1) := by decide +kernel
theorem dJ1_indexOf_4cfef_24 : decode cJ1_indexOf_4cfef 24 = .ok (.if_icmp .lt 5, 3) := by decide +kernel
theorem dJ1_indexOf_4cfef_27 : decode cJ1_indexOf_4cfef 27 = .ok (.iconst (-1), 1) := by decide +kernel
theorem dJ1_indexOf_4cfef_28 : decode cJ1_indexOf_4cfef 28 = .ok (.ireturn, 1) := by decide +kernel
theorem dJ1_indexOf_4cfef_29 : decode cJ1_indexOf_4cfef 29 = .ok (.aload_n 0, 1) := by decide +kernel
theorem dJ1_indexOf_4cfef_30 : decode cJ1_indexOf_4cfef 30 = .ok (.iload_n 1, 1) := by decide +kernel
theorem dJ1_indexOf_4cfef_31 : decode cJ1_indexOf_4cfef 31 = .ok (.iload_n 2, 1) := by decide +kernel
theorem dJ1_indexOf_4cfef_32 : decode cJ1_indexOf_4cfef 32 = .ok (.iload_n 3, 1) := by decide +kernel
theorem dJ1_indexOf_4cfef_33 : decode cJ1_indexOf_4cfef 33 = .ok (.invokestatic 95, 3) := by decide +kernel
theorem dJ1_indexOf_4cfef_36 : decode cJ1_indexOf_4cfef 36 = .ok (.ireturn, 1) := by decide +kernel
theorem dJ1_indexOfChar_4cfef_0 : decode cJ1_indexOfChar_4cfef 0 = .ok (.iload_n 1, 1) := by decide +kernel
theorem dJ1_indexOfChar_4cfef_1 : decode cJ1_indexOfChar_4cfef 1 = .ok (.i2b, 1) := by decide +kernel
theorem dJ1_indexOfChar_4cfef_2 : decode cJ1_indexOfChar_4cfef 2 = .ok (.istore 4, 2) := by decide +kernel
theorem dJ1_indexOfChar_4cfef_4 : decode cJ1_indexOfChar_4cfef 4 = .ok (.iload_n 2, 1) := by decide +kernel
theorem dJ1_indexOfChar_4cfef_5 : decode cJ1_indexOfChar_4cfef 5 = .ok (.istore 5, 2) := by decide +kernel
theorem dJ1_indexOfChar_4cfef_7 : decode cJ1_indexOfChar_4cfef 7 = .ok (.iload 5, 2) := by decide +kernel
theorem dJ1_indexOfChar_4cfef_9 : decode cJ1_indexOfChar_4cfef 9 = .ok (.iload_n 3, 1) := by decide +kernel
theorem dJ1_indexOfChar_4cfef_10 : decode cJ1_indexOfChar_4cfef 10 = .ok (.if_icmp .ge 21, 3) := by decide +kernel
theorem dJ1_indexOfChar_4cfef_13 : decode cJ1_indexOfChar_4cfef 13 = .ok (.aload_n 0, 1) := by decide +kernel
theorem dJ1_indexOfChar_4cfef_14 : decode cJ1_indexOfChar_4cfef 14 = .ok (.iload 5, 2) := by decide +kernel
theorem dJ1_indexOfChar_4cfef_16 : decode cJ1_indexOfChar_4cfef 16 = .ok (.baload, 1) := by decide +kernel
theorem dJ1_indexOfChar_4cfef_17 : decode cJ1_indexOfChar_4cfef 17 = .ok (.iload 4, 2) := by decide +kernel
theorem dJ1_indexOfChar_4cfef_19 : decode cJ1_indexOfChar_4cfef 19 = .ok (.if_icmp .ne 6, 3) := by decide +kernel
theorem dJ1_indexOfChar_4cfef_22 : decode cJ1_indexOfChar_4cfef 22 = .ok (.iload 5, 2) := by decide +kernel
theorem dJ1_indexOfChar_4cfef_24 : decode cJ1_indexOfChar_4cfef 24 = .ok (.ireturn, 1) := by decide +kernel
theorem dJ1_indexOfChar_4cfef_25 : decode cJ1_indexOfChar_4cfef 25 = .ok (.iinc 5 1, 3) := by decide +kernel
theorem dJ1_indexOfChar_4cfef_28 : decode cJ1_indexOfChar_4cfef 28 = .ok (.goto (-21), 3) := by decide +kernel
theorem dJ1_indexOfChar_4cfef_31 : decode cJ1_indexOfChar_4cfef 31 = .ok (.iconst (-1), 1) := by decide +kernel
theorem dJ1_indexOfChar_4cfef_32 : decode cJ1_indexOfChar_4cfef 32 = .ok (.ireturn, 1) := by decide +kernel
theorem dJ2_getChar_3b067_0 : decode cJ2_getChar_3b067 0 = .ok (.getstatic 44, 3) := by decide +kernel
theorem dJ2_getChar_3b067_3 : decode cJ2_getChar_3b067 3 = .ok (.ifCond .ne 25, 3) := by decide +kernel
theorem dJ2_getChar_3b067_6 : decode cJ2_getChar_3b067 6 = .ok (.iload_n 1, 1) := by decide +kernel
theorem dJ2_getChar_3b067_7 : decode cJ2_getChar_3b067 7 = .ok (.ifCond .lt 11, 3) := by decide +kernel
theorem dJ2_getChar_3b067_10 : decode cJ2_getChar_3b067 10 = .ok (.iload_n 1, 1) := by decide +kernel
theorem dJ2_getChar_3b067_11 : decode cJ2_getChar_3b067 11 = .ok (.aload_n 0, 1) := by decide +kernel
theorem dJ2_getChar_3b067_12 : decode cJ2_getChar_3b067 12 = .ok (.invokestatic 48, 3) := by decide +kernel
theorem dJ2_getChar_3b067_15 : decode cJ2_getChar_3b067 15 = .ok (.if_icmp .lt 13, 3) := by decide +kernel
theorem dJ2_getChar_3b067_18 : decode cJ2_getChar_3b067 18 = .ok (.new 52, 3) := by decide +kernel
theorem dJ2_getChar_3b067_21 : decode cJ2_getChar_3b067 21 = .ok (.dup, 1) := by decide +kernel
theorem dJ2_getChar_3b067_22 : decode cJ2_getChar_3b067 22 = .ok (.ldc 54, 2) := by decide +kernel
theorem dJ2_getChar_3b067_24 : decode cJ2_getChar_3b067 24 = .ok (.invokespecial 56, 3) := by decide +kernel
theorem dJ2_getChar_3b067_27 : decode cJ2_getChar_3b067 27 = .ok (.athrow, 1) := by decide +kernel
theorem dJ2_getChar_3b067_28 : decode cJ2_getChar_3b067 28 = .ok (.iload_n 1, 1) := by decide +kernel
theorem dJ2_getChar_3b067_29 : decode cJ2_getChar_3b067 29 = .ok (.iconst 1, 1) := by decide +kernel
theorem dJ2_getChar_3b067_30 : decode cJ2_getChar_3b067 30 = .ok (.ishl, 1) := by decide +kernel
theorem dJ2_getChar_3b067_31 : decode cJ2_getChar_3b067 31 = .ok (.istore_n 1, 1) := by decide +kernel
theorem dJ2_getChar_3b067_32 : decode cJ2_getChar_3b067 32 = .ok (.aload_n 0, 1) := by decide +kernel
theorem dJ2_getChar_3b067_33 : decode cJ2_getChar_3b067 33 = .ok (.iload_n 1, 1) := by decide +kernel
theorem dJ2_getChar_3b067_34 : decode cJ2_getChar_3b067 34 = .ok (.iinc 1 1, 3) := by decide +kernel
theorem dJ2_getChar_3b067_37 : decode cJ2_getChar_3b067 37 = .ok (.baload, 1) := by decide +kernel
theorem dJ2_getChar_3b067_38 : decode cJ2_getChar_3b067 38 = .ok (.sipush 255, 3) := by decide +kernel
theorem dJ2_getChar_3b067_41 : decode cJ2_getChar_3b067 41 = .ok (.iand, 1) := by decide +kernel
theorem dJ2_getChar_3b067_42 : decode cJ2_getChar_3b067 42 = .ok (.getstatic 59, 3) := by decide +kernel
theorem dJ2_getChar_3b067_45 : decode cJ2_getChar_3b067 45 = .ok (.ishl, 1) := by decide +kernel
theorem dJ2_getChar_3b067_46 : decode cJ2_getChar_3b067 46 = .ok (.aload_n 0, 1) := by decide +kernel
theorem dJ2_getChar_3b067_47 : decode cJ2_getChar_3b067 47 = .ok (.iload_n 1, 1) := by decide +kernel
theorem dJ2_getChar_3b067_48 : decode cJ2_getChar_3b067 48 = .ok (.baload, 1) := by decide +kernel
theorem dJ2_getChar_3b067_49 : decode cJ2_getChar_3b067 49 = .ok (.sipush 255, 3) := by decide +kernel
theorem dJ2_getChar_3b067_52 : decode cJ2_getChar_3b067 52 = .ok (.iand, 1) := by decide +kernel
theorem dJ2_getChar_3b067_53 : decode cJ2_getChar_3b067 53 = .ok (.getstatic 63, 3) := by decide +kernel
theorem dJ2_getChar_3b067_56 : decode cJ2_getChar_3b067 56 = .ok (.ishl, 1) := by decide +kernel
theorem dJ2_getChar_3b067_57 : decode cJ2_getChar_3b067 57 = .ok (.ior, 1) := by decide +kernel
theorem dJ2_getChar_3b067_58 : decode cJ2_getChar_3b067 58 = .ok (.i2c, 1) := by decide +kernel
theorem dJ2_getChar_3b067_59 : decode cJ2_getChar_3b067 59 = .ok (.ireturn, 1) := by decide +kernel
theorem dJ2_length_9d52b_0 : decode cJ2_length_9d52b 0 = .ok (.aload_n 0, 1) := by decide +kernel
theorem dJ2_length_9d52b_1 : decode cJ2_length_9d52b 1 = .ok (.arraylength, 1) := by decide +kernel
theorem dJ2_length_9d52b_2 : decode cJ2_length_9d52b 2 = .ok (.iconst 1, 1) := by decide +kernel
theorem dJ2_length_9d52b_3 : decode cJ2_length_9d52b 3 = .ok (.ishr, 1) := by decide +kernel
theorem dJ2_length_9d52b_4 : decode cJ2_length_9d52b 4 = .ok (.ireturn, 1) := by decide +kernel
theorem dJ2_indexOf_4cfef_0 : decode cJ2_indexOf_4cfef 0 = .ok (.iload_n 2, 1) := by decide +kernel
theorem dJ2_indexOf_4cfef_1 : decode cJ2_indexOf_4cfef 1 = .ok (.iconst 0, 1) := by decide +kernel
theorem dJ2_indexOf_4cfef_2 : decode cJ2_indexOf_4cfef 2 = .ok (.invokestatic 224, 3) := by decide +kernel
theorem dJ2_indexOf_4cfef_5 : decode cJ2_indexOf_4cfef 5 = .ok (.istore_n 2, 1) := by decide +kernel
theorem dJ2_indexOf_4cfef_6 : decode cJ2_indexOf_4cfef 6 = .ok (.iload_n 3, 1) := by decide +kernel
theorem dJ2_indexOf_4cfef_7 : decode cJ2_indexOf_4cfef 7 = .ok (.aload_n 0, 1) := by decide +kernel
theorem dJ2_indexOf_4cfef_8 : decode cJ2_indexOf_4cfef 8 = .ok (.arraylength, 1) := by decide +kernel
theorem dJ2_indexOf_4cfef_9 : decode cJ2_indexOf_4cfef 9 = .ok (.iconst 1, 1) := by decide +kernel
theorem dJ2_indexOf_4cfef_10 : decode cJ2_indexOf_4cfef 10 = .ok (.ishr, 1) := by decide +kernel
theorem dJ2_indexOf_4cfef_11 : decode cJ2_indexOf_4cfef 11 = .ok (.invokestatic 183, 3) := by decide +kernel
theorem dJ2_indexOf_4cfef_14 : decode cJ2_indexOf_4cfef 14 = .ok (.istore_n 3, 1) := by decide +kernel
theorem dJ2_indexOf_4cfef_15 : decode cJ2_indexOf_4cfef 15 = .ok (.iload_n 2, 1) := by decide +kernel
theorem dJ2_indexOf_4cfef_16 : decode cJ2_indexOf_4cfef 16 = .ok (.iload_n 3, 1) := by decide +kernel
theorem dJ2_indexOf_4cfef_17 : decode cJ2_indexOf_4cfef 17 = .ok (.if_icmp .lt 5, 3) := by decide +kernel
theorem dJ2_indexOf_4cfef_20 : decode cJ2_indexOf_4cfef 20 = .ok (.iconst (-1), 1) := by decide +kernel
theorem dJ2_indexOf_4cfef_21 : decode cJ2_indexOf_4cfef 21 = .ok (.ireturn, 1) := by decide +kernel
theorem dJ2_indexOf_4cfef_22 : decode cJ2_indexOf_4cfef 22 = .ok (.iload_n 1, 1) := by decide +kernel
theorem dJ2_indexOf_4cfef_23 : decode cJ2_indexOf_4cfef 23 = .ok (.ldc 227, 2) := by decide +kernel
theorem dJ2_indexOf_4cfef_25 : decode cJ2_indexOf_4cfef 25 = .ok (.if_icmp .ge 11, 3) := by decide +kernel
theorem dJ2_indexOf_4cfef_28 : decode cJ2_indexOf_4cfef 28 = .ok (.aload_n 0, 1) := by decide +kernel
theorem dJ2_indexOf_4cfef_29 : decode cJ2_indexOf_4cfef 29 = .ok (.iload_n 1, 1) := by decide +kernel
theorem dJ2_indexOf_4cfef_30 : decode cJ2_indexOf_4cfef 30 = .ok (.iload_n 2, 1) := by decide +kernel
theorem dJ2_indexOf_4cfef_31 : decode cJ2_indexOf_4cfef 31 = .ok (.iload_n 3, 1) := by decide +kernel
theorem dJ2_indexOf_4cfef_32 : decode cJ2_indexOf_4cfef 32 = .ok (.invokestatic 228, 3) := by decide +kernel
theorem dJ2_indexOf_4cfef_35 : decode cJ2_indexOf_4cfef 35 = .ok (.ireturn, 1) := by decide +kernel
theorem dJ2_indexOf_4cfef_36 : decode cJ2_indexOf_4cfef 36 = .ok (.aload_n 0, 1) := by decide +kernel
theorem dJ2_indexOf_4cfef_37 : decode cJ2_indexOf_4cfef 37 = .ok (.iload_n 1, 1) := by decide +kernel
theorem dJ2_indexOf_4cfef_38 : decode cJ2_indexOf_4cfef 38 = .ok (.iload_n 2, 1) := by decide +kernel
theorem dJ2_indexOf_4cfef_39 : decode cJ2_indexOf_4cfef 39 = .ok (.iload_n 3, 1) := by decide +kernel
theorem dJ2_indexOf_4cfef_40 : decode cJ2_indexOf_4cfef 40 = .ok (.invokestatic 232, 3) := by decide +kernel
theorem dJ2_indexOf_4cfef_43 : decode cJ2_indexOf_4cfef 43 = .ok (.ireturn, 1) := by decide +kernel
theorem dJ2_indexOfChar_4cfef_0 : decode cJ2_indexOfChar_4cfef 0 = .ok (.iload_n 2, 1) := by decide +kernel
theorem dJ2_indexOfChar_4cfef_1 : decode cJ2_indexOfChar_4cfef 1 = .ok (.iload_n 3, 1) := by decide +kernel
theorem dJ2_indexOfChar_4cfef_2 : decode cJ2_indexOfChar_4cfef 2 = .ok (.aload_n 0, 1) := by decide +kernel
theorem dJ2_indexOfChar_4cfef_3 : decode cJ2_indexOfChar_4cfef 3 = .ok (.invokestatic 96, 3) := by decide +kernel
theorem dJ2_indexOfChar_4cfef_6 : decode cJ2_indexOfChar_4cfef 6 = .ok (.aload_n 0, 1) := by decide +kernel
theorem dJ2_indexOfChar_4cfef_7 : decode cJ2_indexOfChar_4cfef 7 = .ok (.iload_n 1, 1) := by decide +kernel
theorem dJ2_indexOfChar_4cfef_8 : decode cJ2_indexOfChar_4cfef 8 = .ok (.iload_n 2, 1) := by decide +kernel
theorem dJ2_indexOfChar_4cfef_9 : decode cJ2_indexOfChar_4cfef 9 = .ok (.iload_n 3, 1) := by decide +kernel
theorem dJ2_indexOfChar_4cfef_10 : decode cJ2_indexOfChar_4cfef 10 = .ok (.invokestatic 244, 3) := by decide +kernel
theorem dJ2_indexOfChar_4cfef_13 : decode cJ2_indexOfChar_4cfef 13 = .ok (.ireturn, 1) := by decide +kernel
theorem dJ2_indexOfCharUnsafe_4cfef_0 : decode cJ2_indexOfCharUnsafe_4cfef 0 = .ok (.iload_n 2, 1) := by decide +kernel
theorem dJ2_indexOfCharUnsafe_4cfef_1 : decode cJ2_indexOfCharUnsafe_4cfef 1 = .ok (.istore 4, 2) := by decide +kernel
theorem dJ2_indexOfCharUnsafe_4cfef_3 : decode cJ2_indexOfCharUnsafe_4cfef 3 = .ok (.iload 4, 2) := by decide +kernel
theorem dJ2_indexOfCharUnsafe_4cfef_5 : decode cJ2_indexOfCharUnsafe_4cfef 5 = .ok (.iload_n 3, 1) := by decide +kernel
theorem dJ2_indexOfCharUnsafe_4cfef_6 : decode cJ2_indexOfCharUnsafe_4cfef 6 = .ok (.if_icmp .ge 22, 3) := by decide +kernel
theorem dJ2_indexOfCharUnsafe_4cfef_9 : decode cJ2_indexOfCharUnsafe_4cfef 9 = .ok (.aload_n 0, 1) := by decide +kernel
theorem dJ2_indexOfCharUnsafe_4cfef_10 : decode cJ2_indexOfCharUnsafe_4cfef 10 = .ok (.iload 4, 2) := by decide +kernel
theorem dJ2_indexOfCharUnsafe_4cfef_12 : decode cJ2_indexOfCharUnsafe_4cfef 12 = .ok (.invokestatic 71, 3) := by decide +kernel
theorem dJ2_indexOfCharUnsafe_4cfef_15 : decode cJ2_indexOfCharUnsafe_4cfef 15 = .ok (.iload_n 1, 1) := by decide +kernel
theorem dJ2_indexOfCharUnsafe_4cfef_16 : decode cJ2_indexOfCharUnsafe_4cfef 16 = .ok (.if_icmp .ne 6, 3) := by decide +kernel
theorem dJ2_indexOfCharUnsafe_4cfef_19 : decode cJ2_indexOfCharUnsafe_4cfef 19 = .ok (.iload 4, 2) := by decide +kernel
theorem dJ2_indexOfCharUnsafe_4cfef_21 : decode cJ2_indexOfCharUnsafe_4cfef 21 = .ok (.ireturn, 1) := by decide +kernel
theorem dJ2_indexOfCharUnsafe_4cfef_22 : decode cJ2_indexOfCharUnsafe_4cfef 22 = .ok (.iinc 4 1, 3) := by decide +kernel
theorem dJ2_indexOfCharUnsafe_4cfef_25 : decode cJ2_indexOfCharUnsafe_4cfef 25 = .ok (.goto (-22), 3) := by decide +kernel
theorem dJ2_indexOfCharUnsafe_4cfef_28 : decode cJ2_indexOfCharUnsafe_4cfef 28 = .ok (.iconst (-1), 1) := by decide +kernel
theorem dJ2_indexOfCharUnsafe_4cfef_29 : decode cJ2_indexOfCharUnsafe_4cfef 29 = .ok (.ireturn, 1) := by decide +kernel
theorem dJ2_indexOfSupplementary_4cfef_0 : decode cJ2_indexOfSupplementary_4cfef 0 = .ok (.iload_n 1, 1) := by decide +kernel
theorem dJ2_indexOfSupplementary_4cfef_1 : decode cJ2_indexOfSupplementary_4cfef 1 = .ok (.invokestatic 164, 3) := by decide +kernel
theorem dJ2_indexOfSupplementary_4cfef_4 : decode cJ2_indexOfSupplementary_4cfef 4 = .ok (.ifCond .eq 65, 3) := by decide +kernel
theorem dJ2_indexOfSupplementary_4cfef_7 : decode cJ2_indexOfSupplementary_4cfef 7 = .ok (.iload_n 1, 1) := by decide +kernel
theorem dJ2_indexOfSupplementary_4cfef_8 : decode cJ2_indexOfSupplementary_4cfef 8 = .ok (.invokestatic 157, 3) := by decide +kernel
theorem dJ2_indexOfSupplementary_4cfef_11 : decode cJ2_indexOfSupplementary_4cfef 11 = .ok (.istore 4, 2) := by decide +kernel
theorem dJ2_indexOfSupplementary_4cfef_13 : decode cJ2_indexOfSupplementary_4cfef 13 = .ok (.iload_n 1, 1) := by decide +kernel
theorem dJ2_indexOfSupplementary_4cfef_14 : decode cJ2_indexOfSupplementary_4cfef 14 = .ok (.invokestatic 161, 3) := by decide +kernel
theorem dJ2_indexOfSupplementary_4cfef_17 : decode cJ2_indexOfSupplementary_4cfef 17 = .ok (.istore 5, 2) := by decide +kernel
theorem dJ2_indexOfSupplementary_4cfef_19 : decode cJ2_indexOfSupplementary_4cfef 19 = .ok (.iload_n 2, 1) := by decide +kernel
theorem dJ2_indexOfSupplementary_4cfef_20 : decode cJ2_indexOfSupplementary_4cfef 20 = .ok (.iload_n 3, 1) := by decide +kernel
theorem dJ2_indexOfSupplementary_4cfef_21 : decode cJ2_indexOfSupplementary_4cfef 21 = .ok (.aload_n 0, 1) := by decide +kernel
theorem dJ2_indexOfSupplementary_4cfef_22 : decode cJ2_indexOfSupplementary_4cfef 22 = .ok (.invokestatic 96, 3) := by decide +kernel
theorem dJ2_indexOfSupplementary_4cfef_25 : decode cJ2_indexOfSupplementary_4cfef 25 = .ok (.iload_n 2, 1) := by decide +kernel
theorem dJ2_indexOfSupplementary_4cfef_26 : decode cJ2_indexOfSupplementary_4cfef 26 = .ok (.istore 6, 2) := by decide +kernel
theorem dJ2_indexOfSupplementary_4cfef_28 : decode cJ2_indexOfSupplementary_4cfef 28 = .ok (.iload 6, 2) := by decide +kernel
theorem dJ2_indexOfSupplementary_4cfef_30 : decode cJ2_indexOfSupplementary_4cfef 30 = .ok (.iload_n 3, 1) := by decide +kernel
theorem dJ2_indexOfSupplementary_4cfef_31 : decode cJ2_indexOfSupplementary_4cfef 31 = .ok (.iconst 1, 1) := by decide +kernel
theorem dJ2_indexOfSupplementary_4cfef_32 : decode cJ2_indexOfSupplementary_4cfef 32 = .ok (.isub, 1) := by decide +kernel
theorem dJ2_indexOfSupplementary_4cfef_33 : decode cJ2_indexOfSupplementary_4cfef 33 = .ok (.if_icmp .ge 36, 3) := by decide +kernel
theorem dJ2_indexOfSupplementary_4cfef_36 : decode cJ2_indexOfSupplementary_4cfef 36 = .ok (.aload_n 0, 1) := by decide +kernel
theorem dJ2_indexOfSupplementary_4cfef_37 : decode cJ2_indexOfSupplementary_4cfef 37 = .ok (.iload 6, 2) := by decide +kernel
theorem dJ2_indexOfSupplementary_4cfef_39 : decode cJ2_indexOfSupplementary_4cfef 39 = .ok (.invokestatic 71, 3) := by decide +kernel
theorem dJ2_indexOfSupplementary_4cfef_42 : decode cJ2_indexOfSupplementary_4cfef 42 = .ok (.iload 4, 2) := by decide +kernel
theorem dJ2_indexOfSupplementary_4cfef_44 : decode cJ2_indexOfSupplementary_4cfef 44 = .ok (.if_icmp .ne 19, 3) := by decide +kernel
theorem dJ2_indexOfSupplementary_4cfef_47 : decode cJ2_indexOfSupplementary_4cfef 47 = .ok (.aload_n 0, 1) := by decide +kernel
theorem dJ2_indexOfSupplementary_4cfef_48 : decode cJ2_indexOfSupplementary_4cfef 48 = .ok (.iload 6, 2) := by decide +kernel
theorem dJ2_indexOfSupplementary_4cfef_50 : decode cJ2_indexOfSupplementary_4cfef 50 = .ok (.iconst 1, 1) := by decide +kernel
theorem dJ2_indexOfSupplementary_4cfef_51 : decode cJ2_indexOfSupplementary_4cfef 51 = .ok (.iadd, 1) := by decide +kernel
theorem dJ2_indexOfSupplementary_4cfef_52 : decode cJ2_indexOfSupplementary_4cfef 52 = .ok (.invokestatic 71, 3) := by decide +kernel
theorem dJ2_indexOfSupplementary_4cfef_55 : decode cJ2_indexOfSupplementary_4cfef 55 = .ok (.iload 5, 2) := by decide +kernel
theorem dJ2_indexOfSupplementary_4cfef_57 : decode cJ2_indexOfSupplementary_4cfef 57 = .ok (.if_icmp .ne 6, 3) := by decide +kernel
theorem dJ2_indexOfSupplementary_4cfef_60 : decode cJ2_indexOfSupplementary_4cfef 60 = .ok (.iload 6, 2) := by decide +kernel
theorem dJ2_indexOfSupplementary_4cfef_62 : decode cJ2_indexOfSupplementary_4cfef 62 = .ok (.ireturn, 1) := by decide +kernel
theorem dJ2_indexOfSupplementary_4cfef_63 : decode cJ2_indexOfSupplementary_4cfef 63 = .ok (.iinc 6 1, 3) := by decide +kernel
theorem dJ2_indexOfSupplementary_4cfef_66 : decode cJ2_indexOfSupplementary_4cfef 66 = .ok (.goto (-38), 3) := by decide +kernel
theorem dJ2_indexOfSupplementary_4cfef_69 : decode cJ2_indexOfSupplementary_4cfef 69 = .ok (.iconst (-1), 1) := by decide +kernel
theorem dJ2_indexOfSupplementary_4cfef_70 : decode cJ2_indexOfSupplementary_4cfef 70 = .ok (.ireturn, 1) := by decide +kernel
theorem dJ2_charAt_3b067_0 : decode cJ2_charAt_3b067 0 = .ok (.iload_n 1, 1) := by decide +kernel
theorem dJ2_charAt_3b067_1 : decode cJ2_charAt_3b067 1 = .ok (.aload_n 0, 1) := by decide +kernel
theorem dJ2_charAt_3b067_2 : decode cJ2_charAt_3b067 2 = .ok (.invokestatic 67, 3) := by decide +kernel
theorem dJ2_charAt_3b067_5 : decode cJ2_charAt_3b067 5 = .ok (.aload_n 0, 1) := by decide +kernel
theorem dJ2_charAt_3b067_6 : decode cJ2_charAt_3b067 6 = .ok (.iload_n 1, 1) := by decide +kernel
theorem dJ2_charAt_3b067_7 : decode cJ2_charAt_3b067 7 = .ok (.invokestatic 71, 3) := by decide +kernel
theorem dJ2_charAt_3b067_10 : decode cJ2_charAt_3b067 10 = .ok (.ireturn, 1) := by decide +kernel
theorem dJ2_checkIndex_2214a_0 : decode cJ2_checkIndex_2214a 0 = .ok (.iload_n 0, 1) := by decide +kernel
theorem dJ2_checkIndex_2214a_1 : decode cJ2_checkIndex_2214a 1 = .ok (.aload_n 1, 1) := by decide +kernel
theorem dJ2_checkIndex_2214a_2 : decode cJ2_checkIndex_2214a 2 = .ok (.invokestatic 48, 3) := by decide +kernel
theorem dJ2_checkIndex_2214a_5 : decode cJ2_checkIndex_2214a 5 = .ok (.invokestatic 414, 3) := by decide +kernel
theorem dJ2_checkIndex_2214a_8 : decode cJ2_checkIndex_2214a 8 = .ok (.return_, 1) := by decide +kernel
theorem dJ2_checkBoundsBeginEnd_d044e_0 : decode cJ2_checkBoundsBeginEnd_d044e 0 = .ok (.iload_n 0, 1) := by decide +kernel
theorem dJ2_checkBoundsBeginEnd_d044e_1 : decode cJ2_checkBoundsBeginEnd_d044e 1 = .ok (.iload_n 1, 1) := by decide +kernel
theorem dJ2_checkBoundsBeginEnd_d044e_2 : decode cJ2_checkBoundsBeginEnd_d044e 2 = .ok (.aload_n 2, 1) := by decide +kernel
theorem dJ2_checkBoundsBeginEnd_d044e_3 : decode cJ2_checkBoundsBeginEnd_d044e 3 = .ok (.invokestatic 48, 3) := by decide +kernel
theorem dJ2_checkBoundsBeginEnd_d044e_6 : decode cJ2_checkBoundsBeginEnd_d044e 6 = .ok (.invokestatic 241, 3) := by decide +kernel
theorem dJ2_checkBoundsBeginEnd_d044e_9 : decode cJ2_checkBoundsBeginEnd_d044e 9 = .ok (.return_, 1) := by decide +kernel
theorem dJ3_checkIndex_8e157_0 : decode cJ3_checkIndex_8e157 0 = .ok (.iload_n 0, 1) := by decide +kernel
theorem dJ3_checkIndex_8e157_1 : decode cJ3_checkIndex_8e157 1 = .ok (.ifCond .lt 8, 3) := by decide +kernel
theorem dJ3_checkIndex_8e157_4 : decode cJ3_checkIndex_8e157 4 = .ok (.iload_n 0, 1) := by decide +kernel
theorem dJ3_checkIndex_8e157_5 : decode cJ3_checkIndex_8e157 5 = .ok (.iload_n 1, 1) := by decide +kernel
theorem dJ3_checkIndex_8e157_6 : decode cJ3_checkIndex_8e157 6 = .ok (.if_icmp .lt 10, 3) := by decide +kernel
theorem dJ3_checkIndex_8e157_9 : decode cJ3_checkIndex_8e157 9 = .ok (.aload_n 2, 1) := by decide +kernel
theorem dJ3_checkIndex_8e157_10 : decode cJ3_checkIndex_8e157 10 = .ok (.iload_n 0, 1) := by decide +kernel
theorem dJ3_checkIndex_8e157_11 : decode cJ3_checkIndex_8e157 11 = .ok (.iload_n 1, 1) := by decide +kernel
theorem dJ3_checkIndex_8e157_12 : decode cJ3_checkIndex_8e157 12 = .ok (.invokestatic 95, 3) := by decide +kernel
theorem dJ3_checkIndex_8e157_15 : decode cJ3_checkIndex_8e157 15 = .ok (.athrow, 1) := by decide +kernel
theorem dJ3_checkIndex_8e157_16 : decode cJ3_checkIndex_8e157 16 = .ok (.iload_n 0, 1) := by decide +kernel
theorem dJ3_checkIndex_8e157_17 : decode cJ3_checkIndex_8e157 17 = .ok (.ireturn, 1) := by decide +kernel
theorem dJ3_checkFromToIndex_8c36e_0 : decode cJ3_checkFromToIndex_8c36e 0 = .ok (.iload_n 0, 1) := by decide +kernel
theorem dJ3_checkFromToIndex_8c36e_1 : decode cJ3_checkFromToIndex_8c36e 1 = .ok (.ifCond .lt 13, 3) := by decide +kernel
theorem dJ3_checkFromToIndex_8c36e_4 : decode cJ3_checkFromToIndex_8c36e 4 = .ok (.iload_n 0, 1) := by decide +kernel
theorem dJ3_checkFromToIndex_8c36e_5 : decode cJ3_checkFromToIndex_8c36e 5 = .ok (.iload_n 1, 1) := by decide +kernel
theorem dJ3_checkFromToIndex_8c36e_6 : decode cJ3_checkFromToIndex_8c36e 6 = .ok (.if_icmp .gt 8, 3) := by decide +kernel
theorem dJ3_checkFromToIndex_8c36e_9 : decode cJ3_checkFromToIndex_8c36e 9 = .ok (.iload_n 1, 1) := by decide +kernel
theorem dJ3_checkFromToIndex_8c36e_10 : decode cJ3_checkFromToIndex_8c36e 10 = .ok (.iload_n 2, 1) := by decide +kernel
theorem dJ3_checkFromToIndex_8c36e_11 : decode cJ3_checkFromToIndex_8c36e 11 = .ok (.if_icmp .le 11, 3) := by decide +kernel
theorem dJ3_checkFromToIndex_8c36e_14 : decode cJ3_checkFromToIndex_8c36e 14 = .ok (.aload_n 3, 1) := by decide +kernel
theorem dJ3_checkFromToIndex_8c36e_15 : decode cJ3_checkFromToIndex_8c36e 15 = .ok (.iload_n 0, 1) := by decide +kernel
theorem dJ3_checkFromToIndex_8c36e_16 : decode cJ3_checkFromToIndex_8c36e 16 = .ok (.iload_n 1, 1) := by decide +kernel
theorem dJ3_checkFromToIndex_8c36e_17 : decode cJ3_checkFromToIndex_8c36e 17 = .ok (.iload_n 2, 1) := by decide +kernel
theorem dJ3_checkFromToIndex_8c36e_18 : decode cJ3_checkFromToIndex_8c36e 18 = .ok (.invokestatic 99, 3) := by decide +kernel
theorem dJ3_checkFromToIndex_8c36e_21 : decode cJ3_checkFromToIndex_8c36e 21 = .ok (.athrow, 1) := by decide +kernel
theorem dJ3_checkFromToIndex_8c36e_22 : decode cJ3_checkFromToIndex_8c36e 22 = .ok (.iload_n 0, 1) := by decide +kernel
theorem dJ3_checkFromToIndex_8c36e_23 : decode cJ3_checkFromToIndex_8c36e 23 = .ok (.ireturn, 1) := by decide +kernel
theorem dL_join_0 : decode cL_join 0 = .ok (.aload 4, 2) := by decide +kernel
theorem dL_join_2 : decode cL_join 2 = .ok (.iconst 0, 1) := by decide +kernel
theorem dL_join_3 : decode cL_join 3 = .ok (.aload_n 0, 1) := by decide +kernel
theorem dL_join_4 : decode cL_join 4 = .ok (.iload_n 1, 1) := by decide +kernel
theorem dL_join_5 : decode cL_join 5 = .ok (.iload_n 2, 1) := by decide +kernel
theorem dL_join_6 : decode cL_join 6 = .ok (.iload_n 3, 1) := by decide +kernel
theorem dL_join_7 : decode cL_join 7 = .ok (.invokevirtual 7, 3) := by decide +kernel
theorem dL_join_10 : decode cL_join 10 = .ok (.i2l, 1) := by decide +kernel
theorem dL_join_11 : decode cL_join 11 = .ok (.lastore, 1) := by decide +kernel
theorem dL_join_12 : decode cL_join 12 = .ok (.goto 15, 3) := by decide +kernel
theorem dL_join_15 : decode cL_join 15 = .ok (.astore 5, 2) := by decide +kernel
theorem dL_join_17 : decode cL_join 17 = .ok (.iconst 1, 1) := by decide +kernel
theorem dL_join_18 : decode cL_join 18 = .ok (.ireturn, 1) := by decide +kernel
theorem dL_join_19 : decode cL_join 19 = .ok (.astore 5, 2) := by decide +kernel
theorem dL_join_21 : decode cL_join 21 = .ok (.iconst 2, 1) := by decide +kernel
theorem dL_join_22 : decode cL_join 22 = .ok (.ireturn, 1) := by decide +kernel
theorem dL_join_23 : decode cL_join 23 = .ok (.astore 5, 2) := by decide +kernel
theorem dL_join_25 : decode cL_join 25 = .ok (.iconst 3, 1) := by decide +kernel
theorem dL_join_26 : decode cL_join 26 = .ok (.ireturn, 1) := by decide +kernel
theorem dL_join_27 : decode cL_join 27 = .ok (.iconst 0, 1) := by decide +kernel
theorem dL_join_28 : decode cL_join 28 = .ok (.ireturn, 1) := by decide +kernel
theorem dL_leave_0 : decode cL_leave 0 = .ok (.aload_n 3, 1) := by decide +kernel
theorem dL_leave_1 : decode cL_leave 1 = .ok (.iconst 0, 1) := by decide +kernel
theorem dL_leave_2 : decode cL_leave 2 = .ok (.aload_n 0, 1) := by decide +kernel
theorem dL_leave_3 : decode cL_leave 3 = .ok (.iload_n 1, 1) := by decide +kernel
theorem dL_leave_4 : decode cL_leave 4 = .ok (.iload_n 2, 1) := by decide +kernel
theorem dL_leave_5 : decode cL_leave 5 = .ok (.invokevirtual 19, 3) := by decide +kernel
theorem dL_leave_8 : decode cL_leave 8 = .ok (.i2l, 1) := by decide +kernel
theorem dL_leave_9 : decode cL_leave 9 = .ok (.lastore, 1) := by decide +kernel
theorem dL_leave_10 : decode cL_leave 10 = .ok (.goto 7, 3) := by decide +kernel
theorem dL_leave_13 : decode cL_leave 13 = .ok (.astore 4, 2) := by decide +kernel
theorem dL_leave_15 : decode cL_leave 15 = .ok (.iconst 1, 1) := by decide +kernel
theorem dL_leave_16 : decode cL_leave 16 = .ok (.ireturn, 1) := by decide +kernel
theorem dL_leave_17 : decode cL_leave 17 = .ok (.iconst 0, 1) := by decide +kernel
theorem dL_leave_18 : decode cL_leave 18 = .ok (.ireturn, 1) := by decide +kernel
theorem dL_grow_0 : decode cL_grow 0 = .ok (.aload 4, 2) := by decide +kernel
theorem dL_grow_2 : decode cL_grow 2 = .ok (.iconst 0, 1) := by decide +kernel
theorem dL_grow_3 : decode cL_grow 3 = .ok (.aload_n 0, 1) := by decide +kernel
theorem dL_grow_4 : decode cL_grow 4 = .ok (.iload_n 1, 1) := by decide +kernel
theorem dL_grow_5 : decode cL_grow 5 = .ok (.iload_n 2, 1) := by decide +kernel
theorem dL_grow_6 : decode cL_grow 6 = .ok (.iload_n 3, 1) := by decide +kernel
theorem dL_grow_7 : decode cL_grow 7 = .ok (.invokevirtual 23, 3) := by decide +kernel
theorem dL_grow_10 : decode cL_grow 10 = .ok (.i2l, 1) := by decide +kernel
theorem dL_grow_11 : decode cL_grow 11 = .ok (.lastore, 1) := by decide +kernel
theorem dL_grow_12 : decode cL_grow 12 = .ok (.goto 11, 3) := by decide +kernel
theorem dL_grow_15 : decode cL_grow 15 = .ok (.astore 5, 2) := by decide +kernel
theorem dL_grow_17 : decode cL_grow 17 = .ok (.iconst 1, 1) := by decide +kernel
theorem dL_grow_18 : decode cL_grow 18 = .ok (.ireturn, 1) := by decide +kernel
theorem dL_grow_19 : decode cL_grow 19 = .ok (.astore 5, 2) := by decide +kernel
theorem dL_grow_21 : decode cL_grow 21 = .ok (.iconst 2, 1) := by decide +kernel
theorem dL_grow_22 : decode cL_grow 22 = .ok (.ireturn, 1) := by decide +kernel
theorem dL_grow_23 : decode cL_grow 23 = .ok (.iconst 0, 1) := by decide +kernel
theorem dL_grow_24 : decode cL_grow 24 = .ok (.ireturn, 1) := by decide +kernel
theorem dL_swap_0 : decode cL_swap 0 = .ok (.aload 5, 2) := by decide +kernel
theorem dL_swap_2 : decode cL_swap 2 = .ok (.iconst 0, 1) := by decide +kernel
theorem dL_swap_3 : decode cL_swap 3 = .ok (.aload_n 0, 1) := by decide +kernel
theorem dL_swap_4 : decode cL_swap 4 = .ok (.iload_n 1, 1) := by decide +kernel
theorem dL_swap_5 : decode cL_swap 5 = .ok (.iload_n 2, 1) := by decide +kernel
theorem dL_swap_6 : decode cL_swap 6 = .ok (.iload_n 3, 1) := by decide +kernel
theorem dL_swap_7 : decode cL_swap 7 = .ok (.iload 4, 2) := by decide +kernel
theorem dL_swap_9 : decode cL_swap 9 = .ok (.invokevirtual 26, 3) := by decide +kernel
theorem dL_swap_12 : decode cL_swap 12 = .ok (.i2l, 1) := by decide +kernel
theorem dL_swap_13 : decode cL_swap 13 = .ok (.lastore, 1) := by decide +kernel
theorem dL_swap_14 : decode cL_swap 14 = .ok (.goto 7, 3) := by decide +kernel
theorem dL_swap_17 : decode cL_swap 17 = .ok (.astore 6, 2) := by decide +kernel
theorem dL_swap_19 : decode cL_swap 19 = .ok (.iconst 1, 1) := by decide +kernel
theorem dL_swap_20 : decode cL_swap 20 = .ok (.ireturn, 1) := by decide +kernel
theorem dL_swap_21 : decode cL_swap 21 = .ok (.iconst 0, 1) := by decide +kernel
theorem dL_swap_22 : decode cL_swap 22 = .ok (.ireturn, 1) := by decide +kernel
theorem dL_cross_0 : decode cL_cross 0 = .ok (.aload 4, 2) := by decide +kernel
theorem dL_cross_2 : decode cL_cross 2 = .ok (.iconst 0, 1) := by decide +kernel
theorem dL_cross_3 : decode cL_cross 3 = .ok (.aload_n 0, 1) := by decide +kernel
theorem dL_cross_4 : decode cL_cross 4 = .ok (.iload_n 1, 1) := by decide +kernel
theorem dL_cross_5 : decode cL_cross 5 = .ok (.iload_n 2, 1) := by decide +kernel
theorem dL_cross_6 : decode cL_cross 6 = .ok (.iload_n 3, 1) := by decide +kernel
theorem dL_cross_7 : decode cL_cross 7 = .ok (.invokevirtual 30, 3) := by decide +kernel
theorem dL_cross_10 : decode cL_cross 10 = .ok (.i2l, 1) := by decide +kernel
theorem dL_cross_11 : decode cL_cross 11 = .ok (.lastore, 1) := by decide +kernel
theorem dL_cross_12 : decode cL_cross 12 = .ok (.goto 11, 3) := by decide +kernel
theorem dL_cross_15 : decode cL_cross 15 = .ok (.astore 5, 2) := by decide +kernel
theorem dL_cross_17 : decode cL_cross 17 = .ok (.iconst 1, 1) := by decide +kernel
theorem dL_cross_18 : decode cL_cross 18 = .ok (.ireturn, 1) := by decide +kernel
theorem dL_cross_19 : decode cL_cross 19 = .ok (.astore 5, 2) := by decide +kernel
theorem dL_cross_21 : decode cL_cross 21 = .ok (.iconst 2, 1) := by decide +kernel
theorem dL_cross_22 : decode cL_cross 22 = .ok (.ireturn, 1) := by decide +kernel
theorem dL_cross_23 : decode cL_cross 23 = .ok (.iconst 0, 1) := by decide +kernel
theorem dL_cross_24 : decode cL_cross 24 = .ok (.ireturn, 1) := by decide +kernel
theorem dL_turn_0 : decode cL_turn 0 = .ok (.aload_n 2, 1) := by decide +kernel
theorem dL_turn_1 : decode cL_turn 1 = .ok (.iconst 0, 1) := by decide +kernel
theorem dL_turn_2 : decode cL_turn 2 = .ok (.aload_n 0, 1) := by decide +kernel
theorem dL_turn_3 : decode cL_turn 3 = .ok (.iload_n 1, 1) := by decide +kernel
theorem dL_turn_4 : decode cL_turn 4 = .ok (.invokevirtual 33, 3) := by decide +kernel
theorem dL_turn_7 : decode cL_turn 7 = .ok (.i2l, 1) := by decide +kernel
theorem dL_turn_8 : decode cL_turn 8 = .ok (.lastore, 1) := by decide +kernel
theorem dL_turn_9 : decode cL_turn 9 = .ok (.goto 6, 3) := by decide +kernel
theorem dL_turn_12 : decode cL_turn 12 = .ok (.astore_n 3, 1) := by decide +kernel
theorem dL_turn_13 : decode cL_turn 13 = .ok (.iconst 1, 1) := by decide +kernel
theorem dL_turn_14 : decode cL_turn 14 = .ok (.ireturn, 1) := by decide +kernel
theorem dL_turn_15 : decode cL_turn 15 = .ok (.iconst 0, 1) := by decide +kernel
theorem dL_turn_16 : decode cL_turn 16 = .ok (.ireturn, 1) := by decide +kernel
theorem dL_sort_0 : decode cL_sort 0 = .ok (.aload_n 3, 1) := by decide +kernel
theorem dL_sort_1 : decode cL_sort 1 = .ok (.iconst 0, 1) := by decide +kernel
theorem dL_sort_2 : decode cL_sort 2 = .ok (.aload_n 0, 1) := by decide +kernel
theorem dL_sort_3 : decode cL_sort 3 = .ok (.iload_n 1, 1) := by decide +kernel
theorem dL_sort_4 : decode cL_sort 4 = .ok (.iload_n 2, 1) := by decide +kernel
theorem dL_sort_5 : decode cL_sort 5 = .ok (.invokevirtual 37, 3) := by decide +kernel
theorem dL_sort_8 : decode cL_sort 8 = .ok (.i2l, 1) := by decide +kernel
theorem dL_sort_9 : decode cL_sort 9 = .ok (.lastore, 1) := by decide +kernel
theorem dL_sort_10 : decode cL_sort 10 = .ok (.goto 11, 3) := by decide +kernel
theorem dL_sort_13 : decode cL_sort 13 = .ok (.astore 4, 2) := by decide +kernel
theorem dL_sort_15 : decode cL_sort 15 = .ok (.iconst 1, 1) := by decide +kernel
theorem dL_sort_16 : decode cL_sort 16 = .ok (.ireturn, 1) := by decide +kernel
theorem dL_sort_17 : decode cL_sort 17 = .ok (.astore 4, 2) := by decide +kernel
theorem dL_sort_19 : decode cL_sort 19 = .ok (.iconst 2, 1) := by decide +kernel
theorem dL_sort_20 : decode cL_sort 20 = .ok (.ireturn, 1) := by decide +kernel
theorem dL_sort_21 : decode cL_sort 21 = .ok (.iconst 0, 1) := by decide +kernel
theorem dL_sort_22 : decode cL_sort 22 = .ok (.ireturn, 1) := by decide +kernel
theorem dL_set_0 : decode cL_set 0 = .ok (.aload_n 3, 1) := by decide +kernel
theorem dL_set_1 : decode cL_set 1 = .ok (.iconst 0, 1) := by decide +kernel
theorem dL_set_2 : decode cL_set 2 = .ok (.aload_n 0, 1) := by decide +kernel
theorem dL_set_3 : decode cL_set 3 = .ok (.iload_n 1, 1) := by decide +kernel
theorem dL_set_4 : decode cL_set 4 = .ok (.iload_n 2, 1) := by decide +kernel
theorem dL_set_5 : decode cL_set 5 = .ok (.invokevirtual 40, 3) := by decide +kernel
theorem dL_set_8 : decode cL_set 8 = .ok (.i2l, 1) := by decide +kernel
theorem dL_set_9 : decode cL_set 9 = .ok (.lastore, 1) := by decide +kernel
theorem dL_set_10 : decode cL_set 10 = .ok (.goto 11, 3) := by decide +kernel
theorem dL_set_13 : decode cL_set 13 = .ok (.astore 4, 2) := by decide +kernel
theorem dL_set_15 : decode cL_set 15 = .ok (.iconst 1, 1) := by decide +kernel
theorem dL_set_16 : decode cL_set 16 = .ok (.ireturn, 1) := by decide +kernel
theorem dL_set_17 : decode cL_set 17 = .ok (.astore 4, 2) := by decide +kernel
theorem dL_set_19 : decode cL_set 19 = .ok (.iconst 2, 1) := by decide +kernel
theorem dL_set_20 : decode cL_set 20 = .ok (.ireturn, 1) := by decide +kernel
theorem dL_set_21 : decode cL_set 21 = .ok (.iconst 0, 1) := by decide +kernel
theorem dL_set_22 : decode cL_set 22 = .ok (.ireturn, 1) := by decide +kernel
theorem dL_append_0 : decode cL_append 0 = .ok (.aload_n 2, 1) := by decide +kernel
theorem dL_append_1 : decode cL_append 1 = .ok (.iconst 0, 1) := by decide +kernel
theorem dL_append_2 : decode cL_append 2 = .ok (.aload_n 0, 1) := by decide +kernel
theorem dL_append_3 : decode cL_append 3 = .ok (.iload_n 1, 1) := by decide +kernel
theorem dL_append_4 : decode cL_append 4 = .ok (.invokevirtual 43, 3) := by decide +kernel
theorem dL_append_7 : decode cL_append 7 = .ok (.i2l, 1) := by decide +kernel
theorem dL_append_8 : decode cL_append 8 = .ok (.lastore, 1) := by decide +kernel
theorem dL_append_9 : decode cL_append 9 = .ok (.goto 9, 3) := by decide +kernel
theorem dL_append_12 : decode cL_append 12 = .ok (.astore_n 3, 1) := by decide +kernel
theorem dL_append_13 : decode cL_append 13 = .ok (.iconst 1, 1) := by decide +kernel
theorem dL_append_14 : decode cL_append 14 = .ok (.ireturn, 1) := by decide +kernel
theorem dL_append_15 : decode cL_append 15 = .ok (.astore_n 3, 1) := by decide +kernel
theorem dL_append_16 : decode cL_append 16 = .ok (.iconst 2, 1) := by decide +kernel
theorem dL_append_17 : decode cL_append 17 = .ok (.ireturn, 1) := by decide +kernel
theorem dL_append_18 : decode cL_append 18 = .ok (.iconst 0, 1) := by decide +kernel
theorem dL_append_19 : decode cL_append 19 = .ok (.ireturn, 1) := by decide +kernel
theorem dL_chant_0 : decode cL_chant 0 = .ok (.aload_n 1, 1) := by decide +kernel
theorem dL_chant_1 : decode cL_chant 1 = .ok (.iconst 0, 1) := by decide +kernel
theorem dL_chant_2 : decode cL_chant 2 = .ok (.aload_n 0, 1) := by decide +kernel
theorem dL_chant_3 : decode cL_chant 3 = .ok (.invokevirtual 46, 3) := by decide +kernel
theorem dL_chant_6 : decode cL_chant 6 = .ok (.i2l, 1) := by decide +kernel
theorem dL_chant_7 : decode cL_chant 7 = .ok (.lastore, 1) := by decide +kernel
theorem dL_chant_8 : decode cL_chant 8 = .ok (.goto 6, 3) := by decide +kernel
theorem dL_chant_11 : decode cL_chant 11 = .ok (.astore_n 2, 1) := by decide +kernel
theorem dL_chant_12 : decode cL_chant 12 = .ok (.iconst 1, 1) := by decide +kernel
theorem dL_chant_13 : decode cL_chant 13 = .ok (.ireturn, 1) := by decide +kernel
theorem dL_chant_14 : decode cL_chant 14 = .ok (.iconst 0, 1) := by decide +kernel
theorem dL_chant_15 : decode cL_chant 15 = .ok (.ireturn, 1) := by decide +kernel
theorem dL_written_0 : decode cL_written 0 = .ok (.aload_n 3, 1) := by decide +kernel
theorem dL_written_1 : decode cL_written 1 = .ok (.iconst 0, 1) := by decide +kernel
theorem dL_written_2 : decode cL_written 2 = .ok (.aload_n 0, 1) := by decide +kernel
theorem dL_written_3 : decode cL_written 3 = .ok (.iload_n 1, 1) := by decide +kernel
theorem dL_written_4 : decode cL_written 4 = .ok (.iload_n 2, 1) := by decide +kernel
theorem dL_written_5 : decode cL_written 5 = .ok (.invokevirtual 50, 3) := by decide +kernel
theorem dL_written_8 : decode cL_written 8 = .ok (.i2l, 1) := by decide +kernel
theorem dL_written_9 : decode cL_written 9 = .ok (.lastore, 1) := by decide +kernel
theorem dL_written_10 : decode cL_written 10 = .ok (.goto 11, 3) := by decide +kernel
theorem dL_written_13 : decode cL_written 13 = .ok (.astore 4, 2) := by decide +kernel
theorem dL_written_15 : decode cL_written 15 = .ok (.iconst 1, 1) := by decide +kernel
theorem dL_written_16 : decode cL_written 16 = .ok (.ireturn, 1) := by decide +kernel
theorem dL_written_17 : decode cL_written 17 = .ok (.astore 4, 2) := by decide +kernel
theorem dL_written_19 : decode cL_written 19 = .ok (.iconst 2, 1) := by decide +kernel
theorem dL_written_20 : decode cL_written 20 = .ok (.ireturn, 1) := by decide +kernel
theorem dL_written_21 : decode cL_written 21 = .ok (.iconst 0, 1) := by decide +kernel
theorem dL_written_22 : decode cL_written 22 = .ok (.ireturn, 1) := by decide +kernel
theorem dL_undo_0 : decode cL_undo 0 = .ok (.aload_n 1, 1) := by decide +kernel
theorem dL_undo_1 : decode cL_undo 1 = .ok (.iconst 0, 1) := by decide +kernel
theorem dL_undo_2 : decode cL_undo 2 = .ok (.aload_n 0, 1) := by decide +kernel
theorem dL_undo_3 : decode cL_undo 3 = .ok (.invokevirtual 53, 3) := by decide +kernel
theorem dL_undo_6 : decode cL_undo 6 = .ok (.i2l, 1) := by decide +kernel
theorem dL_undo_7 : decode cL_undo 7 = .ok (.lastore, 1) := by decide +kernel
theorem dL_undo_8 : decode cL_undo 8 = .ok (.goto 6, 3) := by decide +kernel
theorem dL_undo_11 : decode cL_undo 11 = .ok (.astore_n 2, 1) := by decide +kernel
theorem dL_undo_12 : decode cL_undo 12 = .ok (.iconst 1, 1) := by decide +kernel
theorem dL_undo_13 : decode cL_undo 13 = .ok (.ireturn, 1) := by decide +kernel
theorem dL_undo_14 : decode cL_undo 14 = .ok (.iconst 0, 1) := by decide +kernel
theorem dL_undo_15 : decode cL_undo 15 = .ok (.ireturn, 1) := by decide +kernel
theorem dL_restore_0 : decode cL_restore 0 = .ok (.aload_n 1, 1) := by decide +kernel
theorem dL_restore_1 : decode cL_restore 1 = .ok (.iconst 0, 1) := by decide +kernel
theorem dL_restore_2 : decode cL_restore 2 = .ok (.aload_n 0, 1) := by decide +kernel
theorem dL_restore_3 : decode cL_restore 3 = .ok (.invokevirtual 56, 3) := by decide +kernel
theorem dL_restore_6 : decode cL_restore 6 = .ok (.i2l, 1) := by decide +kernel
theorem dL_restore_7 : decode cL_restore 7 = .ok (.lastore, 1) := by decide +kernel
theorem dL_restore_8 : decode cL_restore 8 = .ok (.goto 6, 3) := by decide +kernel
theorem dL_restore_11 : decode cL_restore 11 = .ok (.astore_n 2, 1) := by decide +kernel
theorem dL_restore_12 : decode cL_restore 12 = .ok (.iconst 1, 1) := by decide +kernel
theorem dL_restore_13 : decode cL_restore 13 = .ok (.ireturn, 1) := by decide +kernel
theorem dL_restore_14 : decode cL_restore 14 = .ok (.iconst 0, 1) := by decide +kernel
theorem dL_restore_15 : decode cL_restore 15 = .ok (.ireturn, 1) := by decide +kernel
theorem dL_singer_0 : decode cL_singer 0 = .ok (.aload 4, 2) := by decide +kernel
theorem dL_singer_2 : decode cL_singer 2 = .ok (.iconst 0, 1) := by decide +kernel
theorem dL_singer_3 : decode cL_singer 3 = .ok (.aload_n 0, 1) := by decide +kernel
theorem dL_singer_4 : decode cL_singer 4 = .ok (.iload_n 1, 1) := by decide +kernel
theorem dL_singer_5 : decode cL_singer 5 = .ok (.iload_n 2, 1) := by decide +kernel
theorem dL_singer_6 : decode cL_singer 6 = .ok (.iload_n 3, 1) := by decide +kernel
theorem dL_singer_7 : decode cL_singer 7 = .ok (.invokevirtual 59, 3) := by decide +kernel
theorem dL_singer_10 : decode cL_singer 10 = .ok (.i2l, 1) := by decide +kernel
theorem dL_singer_11 : decode cL_singer 11 = .ok (.lastore, 1) := by decide +kernel
theorem dL_singer_12 : decode cL_singer 12 = .ok (.goto 11, 3) := by decide +kernel
theorem dL_singer_15 : decode cL_singer 15 = .ok (.astore 5, 2) := by decide +kernel
theorem dL_singer_17 : decode cL_singer 17 = .ok (.iconst 1, 1) := by decide +kernel
theorem dL_singer_18 : decode cL_singer 18 = .ok (.ireturn, 1) := by decide +kernel
theorem dL_singer_19 : decode cL_singer 19 = .ok (.astore 5, 2) := by decide +kernel
theorem dL_singer_21 : decode cL_singer 21 = .ok (.iconst 2, 1) := by decide +kernel
theorem dL_singer_22 : decode cL_singer 22 = .ok (.ireturn, 1) := by decide +kernel
theorem dL_singer_23 : decode cL_singer 23 = .ok (.iconst 0, 1) := by decide +kernel
theorem dL_singer_24 : decode cL_singer 24 = .ok (.ireturn, 1) := by decide +kernel
theorem dL_row_0 : decode cL_row 0 = .ok (.aload_n 3, 1) := by decide +kernel
theorem dL_row_1 : decode cL_row 1 = .ok (.iconst 0, 1) := by decide +kernel
theorem dL_row_2 : decode cL_row 2 = .ok (.aload_n 0, 1) := by decide +kernel
theorem dL_row_3 : decode cL_row 3 = .ok (.iload_n 1, 1) := by decide +kernel
theorem dL_row_4 : decode cL_row 4 = .ok (.iload_n 2, 1) := by decide +kernel
theorem dL_row_5 : decode cL_row 5 = .ok (.invokevirtual 62, 3) := by decide +kernel
theorem dL_row_8 : decode cL_row 8 = .ok (.i2l, 1) := by decide +kernel
theorem dL_row_9 : decode cL_row 9 = .ok (.lastore, 1) := by decide +kernel
theorem dL_row_10 : decode cL_row 10 = .ok (.goto 11, 3) := by decide +kernel
theorem dL_row_13 : decode cL_row 13 = .ok (.astore 4, 2) := by decide +kernel
theorem dL_row_15 : decode cL_row 15 = .ok (.iconst 1, 1) := by decide +kernel
theorem dL_row_16 : decode cL_row 16 = .ok (.ireturn, 1) := by decide +kernel
theorem dL_row_17 : decode cL_row 17 = .ok (.astore 4, 2) := by decide +kernel
theorem dL_row_19 : decode cL_row 19 = .ok (.iconst 2, 1) := by decide +kernel
theorem dL_row_20 : decode cL_row 20 = .ok (.ireturn, 1) := by decide +kernel
theorem dL_row_21 : decode cL_row 21 = .ok (.iconst 0, 1) := by decide +kernel
theorem dL_row_22 : decode cL_row 22 = .ok (.ireturn, 1) := by decide +kernel
theorem dL_find_0 : decode cL_find 0 = .ok (.aload_n 2, 1) := by decide +kernel
theorem dL_find_1 : decode cL_find 1 = .ok (.iconst 0, 1) := by decide +kernel
theorem dL_find_2 : decode cL_find 2 = .ok (.aload_n 0, 1) := by decide +kernel
theorem dL_find_3 : decode cL_find 3 = .ok (.iload_n 1, 1) := by decide +kernel
theorem dL_find_4 : decode cL_find 4 = .ok (.invokevirtual 65, 3) := by decide +kernel
theorem dL_find_7 : decode cL_find 7 = .ok (.i2l, 1) := by decide +kernel
theorem dL_find_8 : decode cL_find 8 = .ok (.lastore, 1) := by decide +kernel
theorem dL_find_9 : decode cL_find 9 = .ok (.goto 6, 3) := by decide +kernel
theorem dL_find_12 : decode cL_find 12 = .ok (.astore_n 3, 1) := by decide +kernel
theorem dL_find_13 : decode cL_find 13 = .ok (.iconst 1, 1) := by decide +kernel
theorem dL_find_14 : decode cL_find 14 = .ok (.ireturn, 1) := by decide +kernel
theorem dL_find_15 : decode cL_find 15 = .ok (.iconst 0, 1) := by decide +kernel
theorem dL_find_16 : decode cL_find 16 = .ok (.ireturn, 1) := by decide +kernel
theorem dL_count_0 : decode cL_count 0 = .ok (.aload_n 2, 1) := by decide +kernel
theorem dL_count_1 : decode cL_count 1 = .ok (.iconst 0, 1) := by decide +kernel
theorem dL_count_2 : decode cL_count 2 = .ok (.aload_n 0, 1) := by decide +kernel
theorem dL_count_3 : decode cL_count 3 = .ok (.iload_n 1, 1) := by decide +kernel
theorem dL_count_4 : decode cL_count 4 = .ok (.invokevirtual 68, 3) := by decide +kernel
theorem dL_count_7 : decode cL_count 7 = .ok (.i2l, 1) := by decide +kernel
theorem dL_count_8 : decode cL_count 8 = .ok (.lastore, 1) := by decide +kernel
theorem dL_count_9 : decode cL_count 9 = .ok (.goto 6, 3) := by decide +kernel
theorem dL_count_12 : decode cL_count 12 = .ok (.astore_n 3, 1) := by decide +kernel
theorem dL_count_13 : decode cL_count 13 = .ok (.iconst 1, 1) := by decide +kernel
theorem dL_count_14 : decode cL_count 14 = .ok (.ireturn, 1) := by decide +kernel
theorem dL_count_15 : decode cL_count 15 = .ok (.iconst 0, 1) := by decide +kernel
theorem dL_count_16 : decode cL_count 16 = .ok (.ireturn, 1) := by decide +kernel
theorem dL_ifSwapped_0 : decode cL_ifSwapped 0 = .ok (.aload 5, 2) := by decide +kernel
theorem dL_ifSwapped_2 : decode cL_ifSwapped 2 = .ok (.iconst 0, 1) := by decide +kernel
theorem dL_ifSwapped_3 : decode cL_ifSwapped 3 = .ok (.aload_n 0, 1) := by decide +kernel
theorem dL_ifSwapped_4 : decode cL_ifSwapped 4 = .ok (.iload_n 1, 1) := by decide +kernel
theorem dL_ifSwapped_5 : decode cL_ifSwapped 5 = .ok (.iload_n 2, 1) := by decide +kernel
theorem dL_ifSwapped_6 : decode cL_ifSwapped 6 = .ok (.iload_n 3, 1) := by decide +kernel
theorem dL_ifSwapped_7 : decode cL_ifSwapped 7 = .ok (.iload 4, 2) := by decide +kernel
theorem dL_ifSwapped_9 : decode cL_ifSwapped 9 = .ok (.invokevirtual 71, 3) := by decide +kernel
theorem dL_ifSwapped_12 : decode cL_ifSwapped 12 = .ok (.i2l, 1) := by decide +kernel
theorem dL_ifSwapped_13 : decode cL_ifSwapped 13 = .ok (.lastore, 1) := by decide +kernel
theorem dL_ifSwapped_14 : decode cL_ifSwapped 14 = .ok (.goto 7, 3) := by decide +kernel
theorem dL_ifSwapped_17 : decode cL_ifSwapped 17 = .ok (.astore 6, 2) := by decide +kernel
theorem dL_ifSwapped_19 : decode cL_ifSwapped 19 = .ok (.iconst 1, 1) := by decide +kernel
theorem dL_ifSwapped_20 : decode cL_ifSwapped 20 = .ok (.ireturn, 1) := by decide +kernel
theorem dL_ifSwapped_21 : decode cL_ifSwapped 21 = .ok (.iconst 0, 1) := by decide +kernel
theorem dL_ifSwapped_22 : decode cL_ifSwapped 22 = .ok (.ireturn, 1) := by decide +kernel
theorem dL_bestSwap_0 : decode cL_bestSwap 0 = .ok (.aload_n 2, 1) := by decide +kernel
theorem dL_bestSwap_1 : decode cL_bestSwap 1 = .ok (.iconst 0, 1) := by decide +kernel
theorem dL_bestSwap_2 : decode cL_bestSwap 2 = .ok (.aload_n 0, 1) := by decide +kernel
theorem dL_bestSwap_3 : decode cL_bestSwap 3 = .ok (.iload_n 1, 1) := by decide +kernel
theorem dL_bestSwap_4 : decode cL_bestSwap 4 = .ok (.invokevirtual 74, 3) := by decide +kernel
theorem dL_bestSwap_7 : decode cL_bestSwap 7 = .ok (.i2l, 1) := by decide +kernel
theorem dL_bestSwap_8 : decode cL_bestSwap 8 = .ok (.lastore, 1) := by decide +kernel
theorem dL_bestSwap_9 : decode cL_bestSwap 9 = .ok (.goto 6, 3) := by decide +kernel
theorem dL_bestSwap_12 : decode cL_bestSwap 12 = .ok (.astore_n 3, 1) := by decide +kernel
theorem dL_bestSwap_13 : decode cL_bestSwap 13 = .ok (.iconst 1, 1) := by decide +kernel
theorem dL_bestSwap_14 : decode cL_bestSwap 14 = .ok (.ireturn, 1) := by decide +kernel
theorem dL_bestSwap_15 : decode cL_bestSwap 15 = .ok (.iconst 0, 1) := by decide +kernel
theorem dL_bestSwap_16 : decode cL_bestSwap 16 = .ok (.ireturn, 1) := by decide +kernel
theorem dL_bestRow_0 : decode cL_bestRow 0 = .ok (.aload_n 2, 1) := by decide +kernel
theorem dL_bestRow_1 : decode cL_bestRow 1 = .ok (.iconst 0, 1) := by decide +kernel
theorem dL_bestRow_2 : decode cL_bestRow 2 = .ok (.aload_n 0, 1) := by decide +kernel
theorem dL_bestRow_3 : decode cL_bestRow 3 = .ok (.iload_n 1, 1) := by decide +kernel
theorem dL_bestRow_4 : decode cL_bestRow 4 = .ok (.invokevirtual 77, 3) := by decide +kernel
theorem dL_bestRow_7 : decode cL_bestRow 7 = .ok (.i2l, 1) := by decide +kernel
theorem dL_bestRow_8 : decode cL_bestRow 8 = .ok (.lastore, 1) := by decide +kernel
theorem dL_bestRow_9 : decode cL_bestRow 9 = .ok (.goto 6, 3) := by decide +kernel
theorem dL_bestRow_12 : decode cL_bestRow 12 = .ok (.astore_n 3, 1) := by decide +kernel
theorem dL_bestRow_13 : decode cL_bestRow 13 = .ok (.iconst 1, 1) := by decide +kernel
theorem dL_bestRow_14 : decode cL_bestRow 14 = .ok (.ireturn, 1) := by decide +kernel
theorem dL_bestRow_15 : decode cL_bestRow 15 = .ok (.iconst 0, 1) := by decide +kernel
theorem dL_bestRow_16 : decode cL_bestRow 16 = .ok (.ireturn, 1) := by decide +kernel
theorem dL_ifReach_0 : decode cL_ifReach 0 = .ok (.aload_n 2, 1) := by decide +kernel
theorem dL_ifReach_1 : decode cL_ifReach 1 = .ok (.iconst 0, 1) := by decide +kernel
theorem dL_ifReach_2 : decode cL_ifReach 2 = .ok (.aload_n 0, 1) := by decide +kernel
theorem dL_ifReach_3 : decode cL_ifReach 3 = .ok (.iload_n 1, 1) := by decide +kernel
theorem dL_ifReach_4 : decode cL_ifReach 4 = .ok (.invokevirtual 80, 3) := by decide +kernel
theorem dL_ifReach_7 : decode cL_ifReach 7 = .ok (.i2l, 1) := by decide +kernel
theorem dL_ifReach_8 : decode cL_ifReach 8 = .ok (.lastore, 1) := by decide +kernel
theorem dL_ifReach_9 : decode cL_ifReach 9 = .ok (.goto 6, 3) := by decide +kernel
theorem dL_ifReach_12 : decode cL_ifReach 12 = .ok (.astore_n 3, 1) := by decide +kernel
theorem dL_ifReach_13 : decode cL_ifReach 13 = .ok (.iconst 1, 1) := by decide +kernel
theorem dL_ifReach_14 : decode cL_ifReach 14 = .ok (.ireturn, 1) := by decide +kernel
theorem dL_ifReach_15 : decode cL_ifReach 15 = .ok (.iconst 0, 1) := by decide +kernel
theorem dL_ifReach_16 : decode cL_ifReach 16 = .ok (.ireturn, 1) := by decide +kernel
theorem dL_law_0 : decode cL_law 0 = .ok (.new 8, 3) := by decide +kernel
theorem dL_law_3 : decode cL_law 3 = .ok (.dup, 1) := by decide +kernel
theorem dL_law_4 : decode cL_law 4 = .ok (.invokespecial 83, 3) := by decide +kernel
theorem dL_law_7 : decode cL_law 7 = .ok (.astore_n 1, 1) := by decide +kernel
theorem dL_law_8 : decode cL_law 8 = .ok (.new 84, 3) := by decide +kernel
theorem dL_law_11 : decode cL_law 11 = .ok (.dup, 1) := by decide +kernel
theorem dL_law_12 : decode cL_law 12 = .ok (.invokespecial 86, 3) := by decide +kernel
theorem dL_law_15 : decode cL_law 15 = .ok (.astore_n 2, 1) := by decide +kernel
theorem dL_law_16 : decode cL_law 16 = .ok (.iconst 1, 1) := by decide +kernel
theorem dL_law_17 : decode cL_law 17 = .ok (.newarray .long, 2) := by decide +kernel
theorem dL_law_19 : decode cL_law 19 = .ok (.astore_n 3, 1) := by decide +kernel
theorem dL_law_20 : decode cL_law 20 = .ok (.iconst 0, 1) := by decide +kernel
theorem dL_law_21 : decode cL_law 21 = .ok (.istore 4, 2) := by decide +kernel
theorem dL_law_23 : decode cL_law 23 = .ok (.iload 4, 2) := by decide +kernel
theorem dL_law_25 : decode cL_law 25 = .ok (.aload_n 0, 1) := by decide +kernel
theorem dL_law_26 : decode cL_law 26 = .ok (.arraylength, 1) := by decide +kernel
theorem dL_law_27 : decode cL_law 27 = .ok (.iconst 5, 1) := by decide +kernel
theorem dL_law_28 : decode cL_law 28 = .ok (.isub, 1) := by decide +kernel
theorem dL_law_29 : decode cL_law 29 = .ok (.if_icmp .gt 1595, 3) := by decide +kernel
theorem dL_law_32 : decode cL_law 32 = .ok (.aload_n 0, 1) := by decide +kernel
theorem dL_law_33 : decode cL_law 33 = .ok (.iload 4, 2) := by decide +kernel
theorem dL_law_35 : decode cL_law 35 = .ok (.iaload, 1) := by decide +kernel
theorem dL_law_36 : decode cL_law 36 = .ok (.bipush 31, 2) := by decide +kernel
theorem dL_law_38 : decode cL_law 38 = .ok (.iand, 1) := by decide +kernel
theorem dL_law_39 : decode cL_law 39 = .ok (.tableswitch 1579 0 25 #[117, 197, 265, 345, 437, 517, 573, 641, 709, 765, 778, 791, 835, 903, 947, 960, 1004, 1084, 1152, 1208, 1264, 1356, 1412, 1468, 1524, 1565], 117) := by decide +kernel
theorem dL_law_156 : decode cL_law 156 = .ok (.aload_n 1, 1) := by decide +kernel
theorem dL_law_157 : decode cL_law 157 = .ok (.aload_n 0, 1) := by decide +kernel
theorem dL_law_158 : decode cL_law 158 = .ok (.iload 4, 2) := by decide +kernel
theorem dL_law_160 : decode cL_law 160 = .ok (.iconst 1, 1) := by decide +kernel
theorem dL_law_161 : decode cL_law 161 = .ok (.iadd, 1) := by decide +kernel
theorem dL_law_162 : decode cL_law 162 = .ok (.iaload, 1) := by decide +kernel
theorem dL_law_163 : decode cL_law 163 = .ok (.aload_n 0, 1) := by decide +kernel
theorem dL_law_164 : decode cL_law 164 = .ok (.iload 4, 2) := by decide +kernel
theorem dL_law_166 : decode cL_law 166 = .ok (.iconst 2, 1) := by decide +kernel
theorem dL_law_167 : decode cL_law 167 = .ok (.iadd, 1) := by decide +kernel
theorem dL_law_168 : decode cL_law 168 = .ok (.iaload, 1) := by decide +kernel
theorem dL_law_169 : decode cL_law 169 = .ok (.aload_n 0, 1) := by decide +kernel
theorem dL_law_170 : decode cL_law 170 = .ok (.iload 4, 2) := by decide +kernel
theorem dL_law_172 : decode cL_law 172 = .ok (.iconst 3, 1) := by decide +kernel
theorem dL_law_173 : decode cL_law 173 = .ok (.iadd, 1) := by decide +kernel
theorem dL_law_174 : decode cL_law 174 = .ok (.iaload, 1) := by decide +kernel
theorem dL_law_175 : decode cL_law 175 = .ok (.aload_n 3, 1) := by decide +kernel
theorem dL_law_176 : decode cL_law 176 = .ok (.invokestatic 87, 3) := by decide +kernel
theorem dL_law_179 : decode cL_law 179 = .ok (.istore 5, 2) := by decide +kernel
theorem dL_law_181 : decode cL_law 181 = .ok (.aload_n 2, 1) := by decide +kernel
theorem dL_law_182 : decode cL_law 182 = .ok (.aload_n 0, 1) := by decide +kernel
theorem dL_law_183 : decode cL_law 183 = .ok (.iload 4, 2) := by decide +kernel
theorem dL_law_185 : decode cL_law 185 = .ok (.iconst 1, 1) := by decide +kernel
theorem dL_law_186 : decode cL_law 186 = .ok (.iadd, 1) := by decide +kernel
theorem dL_law_187 : decode cL_law 187 = .ok (.iaload, 1) := by decide +kernel
theorem dL_law_188 : decode cL_law 188 = .ok (.aload_n 0, 1) := by decide +kernel
theorem dL_law_189 : decode cL_law 189 = .ok (.iload 4, 2) := by decide +kernel
theorem dL_law_191 : decode cL_law 191 = .ok (.iconst 2, 1) := by decide +kernel
theorem dL_law_192 : decode cL_law 192 = .ok (.iadd, 1) := by decide +kernel
theorem dL_law_193 : decode cL_law 193 = .ok (.iaload, 1) := by decide +kernel
theorem dL_law_194 : decode cL_law 194 = .ok (.aload_n 0, 1) := by decide +kernel
theorem dL_law_195 : decode cL_law 195 = .ok (.iload 4, 2) := by decide +kernel
theorem dL_law_197 : decode cL_law 197 = .ok (.iconst 3, 1) := by decide +kernel
theorem dL_law_198 : decode cL_law 198 = .ok (.iadd, 1) := by decide +kernel
theorem dL_law_199 : decode cL_law 199 = .ok (.iaload, 1) := by decide +kernel
theorem dL_law_200 : decode cL_law 200 = .ok (.invokevirtual 92, 3) := by decide +kernel
theorem dL_law_203 : decode cL_law 203 = .ok (.istore 6, 2) := by decide +kernel
theorem dL_law_205 : decode cL_law 205 = .ok (.aload_n 2, 1) := by decide +kernel
theorem dL_law_206 : decode cL_law 206 = .ok (.invokevirtual 93, 3) := by decide +kernel
theorem dL_law_209 : decode cL_law 209 = .ok (.iload 5, 2) := by decide +kernel
theorem dL_law_211 : decode cL_law 211 = .ok (.if_icmp .eq 5, 3) := by decide +kernel
theorem dL_law_214 : decode cL_law 214 = .ok (.iconst 0, 1) := by decide +kernel
theorem dL_law_215 : decode cL_law 215 = .ok (.ireturn, 1) := by decide +kernel
theorem dL_law_216 : decode cL_law 216 = .ok (.iload 5, 2) := by decide +kernel
theorem dL_law_218 : decode cL_law 218 = .ok (.ifCond .ne 15, 3) := by decide +kernel
theorem dL_law_221 : decode cL_law 221 = .ok (.aload_n 3, 1) := by decide +kernel
theorem dL_law_222 : decode cL_law 222 = .ok (.iconst 0, 1) := by decide +kernel
theorem dL_law_223 : decode cL_law 223 = .ok (.laload, 1) := by decide +kernel
theorem dL_law_224 : decode cL_law 224 = .ok (.iload 6, 2) := by decide +kernel
theorem dL_law_226 : decode cL_law 226 = .ok (.i2l, 1) := by decide +kernel
theorem dL_law_227 : decode cL_law 227 = .ok (.lcmp, 1) := by decide +kernel
theorem dL_law_228 : decode cL_law 228 = .ok (.ifCond .eq 5, 3) := by decide +kernel
theorem dL_law_231 : decode cL_law 231 = .ok (.iconst 0, 1) := by decide +kernel
theorem dL_law_232 : decode cL_law 232 = .ok (.ireturn, 1) := by decide +kernel
theorem dL_law_233 : decode cL_law 233 = .ok (.goto 1385, 3) := by decide +kernel
theorem dL_law_236 : decode cL_law 236 = .ok (.aload_n 1, 1) := by decide +kernel
theorem dL_law_237 : decode cL_law 237 = .ok (.aload_n 0, 1) := by decide +kernel
theorem dL_law_238 : decode cL_law 238 = .ok (.iload 4, 2) := by decide +kernel
theorem dL_law_240 : decode cL_law 240 = .ok (.iconst 1, 1) := by decide +kernel
theorem dL_law_241 : decode cL_law 241 = .ok (.iadd, 1) := by decide +kernel
theorem dL_law_242 : decode cL_law 242 = .ok (.iaload, 1) := by decide +kernel
theorem dL_law_243 : decode cL_law 243 = .ok (.aload_n 0, 1) := by decide +kernel
theorem dL_law_244 : decode cL_law 244 = .ok (.iload 4, 2) := by decide +kernel
theorem dL_law_246 : decode cL_law 246 = .ok (.iconst 2, 1) := by decide +kernel
theorem dL_law_247 : decode cL_law 247 = .ok (.iadd, 1) := by decide +kernel
theorem dL_law_248 : decode cL_law 248 = .ok (.iaload, 1) := by decide +kernel
theorem dL_law_249 : decode cL_law 249 = .ok (.aload_n 3, 1) := by decide +kernel
theorem dL_law_250 : decode cL_law 250 = .ok (.invokestatic 96, 3) := by decide +kernel
theorem dL_law_253 : decode cL_law 253 = .ok (.istore 5, 2) := by decide +kernel
theorem dL_law_255 : decode cL_law 255 = .ok (.aload_n 2, 1) := by decide +kernel
theorem dL_law_256 : decode cL_law 256 = .ok (.aload_n 0, 1) := by decide +kernel
theorem dL_law_257 : decode cL_law 257 = .ok (.iload 4, 2) := by decide +kernel
theorem dL_law_259 : decode cL_law 259 = .ok (.iconst 1, 1) := by decide +kernel
theorem dL_law_260 : decode cL_law 260 = .ok (.iadd, 1) := by decide +kernel
theorem dL_law_261 : decode cL_law 261 = .ok (.iaload, 1) := by decide +kernel
theorem dL_law_262 : decode cL_law 262 = .ok (.aload_n 0, 1) := by decide +kernel
theorem dL_law_263 : decode cL_law 263 = .ok (.iload 4, 2) := by decide +kernel
theorem dL_law_265 : decode cL_law 265 = .ok (.iconst 2, 1) := by decide +kernel
theorem dL_law_266 : decode cL_law 266 = .ok (.iadd, 1) := by decide +kernel
theorem dL_law_267 : decode cL_law 267 = .ok (.iaload, 1) := by decide +kernel
theorem dL_law_268 : decode cL_law 268 = .ok (.invokevirtual 99, 3) := by decide +kernel
theorem dL_law_271 : decode cL_law 271 = .ok (.istore 6, 2) := by decide +kernel
theorem dL_law_273 : decode cL_law 273 = .ok (.aload_n 2, 1) := by decide +kernel
theorem dL_law_274 : decode cL_law 274 = .ok (.invokevirtual 93, 3) := by decide +kernel
theorem dL_law_277 : decode cL_law 277 = .ok (.iload 5, 2) := by decide +kernel
theorem dL_law_279 : decode cL_law 279 = .ok (.if_icmp .eq 5, 3) := by decide +kernel
theorem dL_law_282 : decode cL_law 282 = .ok (.iconst 0, 1) := by decide +kernel
theorem dL_law_283 : decode cL_law 283 = .ok (.ireturn, 1) := by decide +kernel
theorem dL_law_284 : decode cL_law 284 = .ok (.iload 5, 2) := by decide +kernel
theorem dL_law_286 : decode cL_law 286 = .ok (.ifCond .ne 15, 3) := by decide +kernel
theorem dL_law_289 : decode cL_law 289 = .ok (.aload_n 3, 1) := by decide +kernel
theorem dL_law_290 : decode cL_law 290 = .ok (.iconst 0, 1) := by decide +kernel
theorem dL_law_291 : decode cL_law 291 = .ok (.laload, 1) := by decide +kernel
theorem dL_law_292 : decode cL_law 292 = .ok (.iload 6, 2) := by decide +kernel
theorem dL_law_294 : decode cL_law 294 = .ok (.i2l, 1) := by decide +kernel
theorem dL_law_295 : decode cL_law 295 = .ok (.lcmp, 1) := by decide +kernel
theorem dL_law_296 : decode cL_law 296 = .ok (.ifCond .eq 5, 3) := by decide +kernel
theorem dL_law_299 : decode cL_law 299 = .ok (.iconst 0, 1) := by decide +kernel
theorem dL_law_300 : decode cL_law 300 = .ok (.ireturn, 1) := by decide +kernel
theorem dL_law_301 : decode cL_law 301 = .ok (.goto 1317, 3) := by decide +kernel
theorem dL_law_304 : decode cL_law 304 = .ok (.aload_n 1, 1) := by decide +kernel
theorem dL_law_305 : decode cL_law 305 = .ok (.aload_n 0, 1) := by decide +kernel
theorem dL_law_306 : decode cL_law 306 = .ok (.iload 4, 2) := by decide +kernel
theorem dL_law_308 : decode cL_law 308 = .ok (.iconst 1, 1) := by decide +kernel
theorem dL_law_309 : decode cL_law 309 = .ok (.iadd, 1) := by decide +kernel
theorem dL_law_310 : decode cL_law 310 = .ok (.iaload, 1) := by decide +kernel
theorem dL_law_311 : decode cL_law 311 = .ok (.aload_n 0, 1) := by decide +kernel
theorem dL_law_312 : decode cL_law 312 = .ok (.iload 4, 2) := by decide +kernel
theorem dL_law_314 : decode cL_law 314 = .ok (.iconst 2, 1) := by decide +kernel
theorem dL_law_315 : decode cL_law 315 = .ok (.iadd, 1) := by decide +kernel
theorem dL_law_316 : decode cL_law 316 = .ok (.iaload, 1) := by decide +kernel
theorem dL_law_317 : decode cL_law 317 = .ok (.aload_n 0, 1) := by decide +kernel
theorem dL_law_318 : decode cL_law 318 = .ok (.iload 4, 2) := by decide +kernel
theorem dL_law_320 : decode cL_law 320 = .ok (.iconst 3, 1) := by decide +kernel
theorem dL_law_321 : decode cL_law 321 = .ok (.iadd, 1) := by decide +kernel
theorem dL_law_322 : decode cL_law 322 = .ok (.iaload, 1) := by decide +kernel
theorem dL_law_323 : decode cL_law 323 = .ok (.aload_n 3, 1) := by decide +kernel
theorem dL_law_324 : decode cL_law 324 = .ok (.invokestatic 100, 3) := by decide +kernel
theorem dL_law_327 : decode cL_law 327 = .ok (.istore 5, 2) := by decide +kernel
theorem dL_law_329 : decode cL_law 329 = .ok (.aload_n 2, 1) := by decide +kernel
theorem dL_law_330 : decode cL_law 330 = .ok (.aload_n 0, 1) := by decide +kernel
theorem dL_law_331 : decode cL_law 331 = .ok (.iload 4, 2) := by decide +kernel
theorem dL_law_333 : decode cL_law 333 = .ok (.iconst 1, 1) := by decide +kernel
theorem dL_law_334 : decode cL_law 334 = .ok (.iadd, 1) := by decide +kernel
theorem dL_law_335 : decode cL_law 335 = .ok (.iaload, 1) := by decide +kernel
theorem dL_law_336 : decode cL_law 336 = .ok (.aload_n 0, 1) := by decide +kernel
theorem dL_law_337 : decode cL_law 337 = .ok (.iload 4, 2) := by decide +kernel
theorem dL_law_339 : decode cL_law 339 = .ok (.iconst 2, 1) := by decide +kernel
theorem dL_law_340 : decode cL_law 340 = .ok (.iadd, 1) := by decide +kernel
theorem dL_law_341 : decode cL_law 341 = .ok (.iaload, 1) := by decide +kernel
theorem dL_law_342 : decode cL_law 342 = .ok (.aload_n 0, 1) := by decide +kernel
theorem dL_law_343 : decode cL_law 343 = .ok (.iload 4, 2) := by decide +kernel
theorem dL_law_345 : decode cL_law 345 = .ok (.iconst 3, 1) := by decide +kernel
theorem dL_law_346 : decode cL_law 346 = .ok (.iadd, 1) := by decide +kernel
theorem dL_law_347 : decode cL_law 347 = .ok (.iaload, 1) := by decide +kernel
theorem dL_law_348 : decode cL_law 348 = .ok (.invokevirtual 102, 3) := by decide +kernel
theorem dL_law_351 : decode cL_law 351 = .ok (.istore 6, 2) := by decide +kernel
theorem dL_law_353 : decode cL_law 353 = .ok (.aload_n 2, 1) := by decide +kernel
theorem dL_law_354 : decode cL_law 354 = .ok (.invokevirtual 93, 3) := by decide +kernel
theorem dL_law_357 : decode cL_law 357 = .ok (.iload 5, 2) := by decide +kernel
theorem dL_law_359 : decode cL_law 359 = .ok (.if_icmp .eq 5, 3) := by decide +kernel
theorem dL_law_362 : decode cL_law 362 = .ok (.iconst 0, 1) := by decide +kernel
theorem dL_law_363 : decode cL_law 363 = .ok (.ireturn, 1) := by decide +kernel
theorem dL_law_364 : decode cL_law 364 = .ok (.iload 5, 2) := by decide +kernel
theorem dL_law_366 : decode cL_law 366 = .ok (.ifCond .ne 15, 3) := by decide +kernel
theorem dL_law_369 : decode cL_law 369 = .ok (.aload_n 3, 1) := by decide +kernel
theorem dL_law_370 : decode cL_law 370 = .ok (.iconst 0, 1) := by decide +kernel
theorem dL_law_371 : decode cL_law 371 = .ok (.laload, 1) := by decide +kernel
theorem dL_law_372 : decode cL_law 372 = .ok (.iload 6, 2) := by decide +kernel
theorem dL_law_374 : decode cL_law 374 = .ok (.i2l, 1) := by decide +kernel
theorem dL_law_375 : decode cL_law 375 = .ok (.lcmp, 1) := by decide +kernel
theorem dL_law_376 : decode cL_law 376 = .ok (.ifCond .eq 5, 3) := by decide +kernel
theorem dL_law_379 : decode cL_law 379 = .ok (.iconst 0, 1) := by decide +kernel
theorem dL_law_380 : decode cL_law 380 = .ok (.ireturn, 1) := by decide +kernel
theorem dL_law_381 : decode cL_law 381 = .ok (.goto 1237, 3) := by decide +kernel
theorem dL_law_384 : decode cL_law 384 = .ok (.aload_n 1, 1) := by decide +kernel
theorem dL_law_385 : decode cL_law 385 = .ok (.aload_n 0, 1) := by decide +kernel
theorem dL_law_386 : decode cL_law 386 = .ok (.iload 4, 2) := by decide +kernel
theorem dL_law_388 : decode cL_law 388 = .ok (.iconst 1, 1) := by decide +kernel
theorem dL_law_389 : decode cL_law 389 = .ok (.iadd, 1) := by decide +kernel
theorem dL_law_390 : decode cL_law 390 = .ok (.iaload, 1) := by decide +kernel
theorem dL_law_391 : decode cL_law 391 = .ok (.aload_n 0, 1) := by decide +kernel
theorem dL_law_392 : decode cL_law 392 = .ok (.iload 4, 2) := by decide +kernel
theorem dL_law_394 : decode cL_law 394 = .ok (.iconst 2, 1) := by decide +kernel
theorem dL_law_395 : decode cL_law 395 = .ok (.iadd, 1) := by decide +kernel
theorem dL_law_396 : decode cL_law 396 = .ok (.iaload, 1) := by decide +kernel
theorem dL_law_397 : decode cL_law 397 = .ok (.aload_n 0, 1) := by decide +kernel
theorem dL_law_398 : decode cL_law 398 = .ok (.iload 4, 2) := by decide +kernel
theorem dL_law_400 : decode cL_law 400 = .ok (.iconst 3, 1) := by decide +kernel
theorem dL_law_401 : decode cL_law 401 = .ok (.iadd, 1) := by decide +kernel
theorem dL_law_402 : decode cL_law 402 = .ok (.iaload, 1) := by decide +kernel
theorem dL_law_403 : decode cL_law 403 = .ok (.aload_n 0, 1) := by decide +kernel
theorem dL_law_404 : decode cL_law 404 = .ok (.iload 4, 2) := by decide +kernel
theorem dL_law_406 : decode cL_law 406 = .ok (.iconst 4, 1) := by decide +kernel
theorem dL_law_407 : decode cL_law 407 = .ok (.iadd, 1) := by decide +kernel
theorem dL_law_408 : decode cL_law 408 = .ok (.iaload, 1) := by decide +kernel
theorem dL_law_409 : decode cL_law 409 = .ok (.aload_n 3, 1) := by decide +kernel
theorem dL_law_410 : decode cL_law 410 = .ok (.invokestatic 103, 3) := by decide +kernel
theorem dL_law_413 : decode cL_law 413 = .ok (.istore 5, 2) := by decide +kernel
theorem dL_law_415 : decode cL_law 415 = .ok (.aload_n 2, 1) := by decide +kernel
theorem dL_law_416 : decode cL_law 416 = .ok (.aload_n 0, 1) := by decide +kernel
theorem dL_law_417 : decode cL_law 417 = .ok (.iload 4, 2) := by decide +kernel
theorem dL_law_419 : decode cL_law 419 = .ok (.iconst 1, 1) := by decide +kernel
theorem dL_law_420 : decode cL_law 420 = .ok (.iadd, 1) := by decide +kernel
theorem dL_law_421 : decode cL_law 421 = .ok (.iaload, 1) := by decide +kernel
theorem dL_law_422 : decode cL_law 422 = .ok (.aload_n 0, 1) := by decide +kernel
theorem dL_law_423 : decode cL_law 423 = .ok (.iload 4, 2) := by decide +kernel
theorem dL_law_425 : decode cL_law 425 = .ok (.iconst 2, 1) := by decide +kernel
theorem dL_law_426 : decode cL_law 426 = .ok (.iadd, 1) := by decide +kernel
theorem dL_law_427 : decode cL_law 427 = .ok (.iaload, 1) := by decide +kernel
theorem dL_law_428 : decode cL_law 428 = .ok (.aload_n 0, 1) := by decide +kernel
theorem dL_law_429 : decode cL_law 429 = .ok (.iload 4, 2) := by decide +kernel
theorem dL_law_431 : decode cL_law 431 = .ok (.iconst 3, 1) := by decide +kernel
theorem dL_law_432 : decode cL_law 432 = .ok (.iadd, 1) := by decide +kernel
theorem dL_law_433 : decode cL_law 433 = .ok (.iaload, 1) := by decide +kernel
theorem dL_law_434 : decode cL_law 434 = .ok (.aload_n 0, 1) := by decide +kernel
theorem dL_law_435 : decode cL_law 435 = .ok (.iload 4, 2) := by decide +kernel
theorem dL_law_437 : decode cL_law 437 = .ok (.iconst 4, 1) := by decide +kernel
theorem dL_law_438 : decode cL_law 438 = .ok (.iadd, 1) := by decide +kernel
theorem dL_law_439 : decode cL_law 439 = .ok (.iaload, 1) := by decide +kernel
theorem dL_law_440 : decode cL_law 440 = .ok (.invokevirtual 106, 3) := by decide +kernel
theorem dL_law_443 : decode cL_law 443 = .ok (.istore 6, 2) := by decide +kernel
theorem dL_law_445 : decode cL_law 445 = .ok (.aload_n 2, 1) := by decide +kernel
theorem dL_law_446 : decode cL_law 446 = .ok (.invokevirtual 93, 3) := by decide +kernel
theorem dL_law_449 : decode cL_law 449 = .ok (.iload 5, 2) := by decide +kernel
theorem dL_law_451 : decode cL_law 451 = .ok (.if_icmp .eq 5, 3) := by decide +kernel
theorem dL_law_454 : decode cL_law 454 = .ok (.iconst 0, 1) := by decide +kernel
theorem dL_law_455 : decode cL_law 455 = .ok (.ireturn, 1) := by decide +kernel
theorem dL_law_456 : decode cL_law 456 = .ok (.iload 5, 2) := by decide +kernel
theorem dL_law_458 : decode cL_law 458 = .ok (.ifCond .ne 15, 3) := by decide +kernel
theorem dL_law_461 : decode cL_law 461 = .ok (.aload_n 3, 1) := by decide +kernel
theorem dL_law_462 : decode cL_law 462 = .ok (.iconst 0, 1) := by decide +kernel
theorem dL_law_463 : decode cL_law 463 = .ok (.laload, 1) := by decide +kernel
theorem dL_law_464 : decode cL_law 464 = .ok (.iload 6, 2) := by decide +kernel
theorem dL_law_466 : decode cL_law 466 = .ok (.i2l, 1) := by decide +kernel
theorem dL_law_467 : decode cL_law 467 = .ok (.lcmp, 1) := by decide +kernel
theorem dL_law_468 : decode cL_law 468 = .ok (.ifCond .eq 5, 3) := by decide +kernel
theorem dL_law_471 : decode cL_law 471 = .ok (.iconst 0, 1) := by decide +kernel
theorem dL_law_472 : decode cL_law 472 = .ok (.ireturn, 1) := by decide +kernel
theorem dL_law_473 : decode cL_law 473 = .ok (.goto 1145, 3) := by decide +kernel
theorem dL_law_476 : decode cL_law 476 = .ok (.aload_n 1, 1) := by decide +kernel
theorem dL_law_477 : decode cL_law 477 = .ok (.aload_n 0, 1) := by decide +kernel
theorem dL_law_478 : decode cL_law 478 = .ok (.iload 4, 2) := by decide +kernel
theorem dL_law_480 : decode cL_law 480 = .ok (.iconst 1, 1) := by decide +kernel
theorem dL_law_481 : decode cL_law 481 = .ok (.iadd, 1) := by decide +kernel
theorem dL_law_482 : decode cL_law 482 = .ok (.iaload, 1) := by decide +kernel
theorem dL_law_483 : decode cL_law 483 = .ok (.aload_n 0, 1) := by decide +kernel
theorem dL_law_484 : decode cL_law 484 = .ok (.iload 4, 2) := by decide +kernel
theorem dL_law_486 : decode cL_law 486 = .ok (.iconst 2, 1) := by decide +kernel
theorem dL_law_487 : decode cL_law 487 = .ok (.iadd, 1) := by decide +kernel
theorem dL_law_488 : decode cL_law 488 = .ok (.iaload, 1) := by decide +kernel
theorem dL_law_489 : decode cL_law 489 = .ok (.aload_n 0, 1) := by decide +kernel
theorem dL_law_490 : decode cL_law 490 = .ok (.iload 4, 2) := by decide +kernel
theorem dL_law_492 : decode cL_law 492 = .ok (.iconst 3, 1) := by decide +kernel
theorem dL_law_493 : decode cL_law 493 = .ok (.iadd, 1) := by decide +kernel
theorem dL_law_494 : decode cL_law 494 = .ok (.iaload, 1) := by decide +kernel
theorem dL_law_495 : decode cL_law 495 = .ok (.aload_n 3, 1) := by decide +kernel
theorem dL_law_496 : decode cL_law 496 = .ok (.invokestatic 107, 3) := by decide +kernel
theorem dL_law_499 : decode cL_law 499 = .ok (.istore 5, 2) := by decide +kernel
theorem dL_law_501 : decode cL_law 501 = .ok (.aload_n 2, 1) := by decide +kernel
theorem dL_law_502 : decode cL_law 502 = .ok (.aload_n 0, 1) := by decide +kernel
theorem dL_law_503 : decode cL_law 503 = .ok (.iload 4, 2) := by decide +kernel
theorem dL_law_505 : decode cL_law 505 = .ok (.iconst 1, 1) := by decide +kernel
theorem dL_law_506 : decode cL_law 506 = .ok (.iadd, 1) := by decide +kernel
theorem dL_law_507 : decode cL_law 507 = .ok (.iaload, 1) := by decide +kernel
theorem dL_law_508 : decode cL_law 508 = .ok (.aload_n 0, 1) := by decide +kernel
theorem dL_law_509 : decode cL_law 509 = .ok (.iload 4, 2) := by decide +kernel
theorem dL_law_511 : decode cL_law 511 = .ok (.iconst 2, 1) := by decide +kernel
theorem dL_law_512 : decode cL_law 512 = .ok (.iadd, 1) := by decide +kernel
theorem dL_law_513 : decode cL_law 513 = .ok (.iaload, 1) := by decide +kernel
theorem dL_law_514 : decode cL_law 514 = .ok (.aload_n 0, 1) := by decide +kernel
theorem dL_law_515 : decode cL_law 515 = .ok (.iload 4, 2) := by decide +kernel
theorem dL_law_517 : decode cL_law 517 = .ok (.iconst 3, 1) := by decide +kernel
theorem dL_law_518 : decode cL_law 518 = .ok (.iadd, 1) := by decide +kernel
theorem dL_law_519 : decode cL_law 519 = .ok (.iaload, 1) := by decide +kernel
theorem dL_law_520 : decode cL_law 520 = .ok (.invokevirtual 109, 3) := by decide +kernel
theorem dL_law_523 : decode cL_law 523 = .ok (.istore 6, 2) := by decide +kernel
theorem dL_law_525 : decode cL_law 525 = .ok (.aload_n 2, 1) := by decide +kernel
theorem dL_law_526 : decode cL_law 526 = .ok (.invokevirtual 93, 3) := by decide +kernel
theorem dL_law_529 : decode cL_law 529 = .ok (.iload 5, 2) := by decide +kernel
theorem dL_law_531 : decode cL_law 531 = .ok (.if_icmp .eq 5, 3) := by decide +kernel
theorem dL_law_534 : decode cL_law 534 = .ok (.iconst 0, 1) := by decide +kernel
theorem dL_law_535 : decode cL_law 535 = .ok (.ireturn, 1) := by decide +kernel
theorem dL_law_536 : decode cL_law 536 = .ok (.iload 5, 2) := by decide +kernel
theorem dL_law_538 : decode cL_law 538 = .ok (.ifCond .ne 15, 3) := by decide +kernel
theorem dL_law_541 : decode cL_law 541 = .ok (.aload_n 3, 1) := by decide +kernel
theorem dL_law_542 : decode cL_law 542 = .ok (.iconst 0, 1) := by decide +kernel
theorem dL_law_543 : decode cL_law 543 = .ok (.laload, 1) := by decide +kernel
theorem dL_law_544 : decode cL_law 544 = .ok (.iload 6, 2) := by decide +kernel
theorem dL_law_546 : decode cL_law 546 = .ok (.i2l, 1) := by decide +kernel
theorem dL_law_547 : decode cL_law 547 = .ok (.lcmp, 1) := by decide +kernel
theorem dL_law_548 : decode cL_law 548 = .ok (.ifCond .eq 5, 3) := by decide +kernel
theorem dL_law_551 : decode cL_law 551 = .ok (.iconst 0, 1) := by decide +kernel
theorem dL_law_552 : decode cL_law 552 = .ok (.ireturn, 1) := by decide +kernel
theorem dL_law_553 : decode cL_law 553 = .ok (.goto 1065, 3) := by decide +kernel
theorem dL_law_556 : decode cL_law 556 = .ok (.aload_n 1, 1) := by decide +kernel
theorem dL_law_557 : decode cL_law 557 = .ok (.aload_n 0, 1) := by decide +kernel
theorem dL_law_558 : decode cL_law 558 = .ok (.iload 4, 2) := by decide +kernel
theorem dL_law_560 : decode cL_law 560 = .ok (.iconst 1, 1) := by decide +kernel
theorem dL_law_561 : decode cL_law 561 = .ok (.iadd, 1) := by decide +kernel
theorem dL_law_562 : decode cL_law 562 = .ok (.iaload, 1) := by decide +kernel
theorem dL_law_563 : decode cL_law 563 = .ok (.aload_n 3, 1) := by decide +kernel
theorem dL_law_564 : decode cL_law 564 = .ok (.invokestatic 110, 3) := by decide +kernel
theorem dL_law_567 : decode cL_law 567 = .ok (.istore 5, 2) := by decide +kernel
theorem dL_law_569 : decode cL_law 569 = .ok (.aload_n 2, 1) := by decide +kernel
theorem dL_law_570 : decode cL_law 570 = .ok (.aload_n 0, 1) := by decide +kernel
theorem dL_law_571 : decode cL_law 571 = .ok (.iload 4, 2) := by decide +kernel
theorem dL_law_573 : decode cL_law 573 = .ok (.iconst 1, 1) := by decide +kernel
theorem dL_law_574 : decode cL_law 574 = .ok (.iadd, 1) := by decide +kernel
theorem dL_law_575 : decode cL_law 575 = .ok (.iaload, 1) := by decide +kernel
theorem dL_law_576 : decode cL_law 576 = .ok (.invokevirtual 113, 3) := by decide +kernel
theorem dL_law_579 : decode cL_law 579 = .ok (.istore 6, 2) := by decide +kernel
theorem dL_law_581 : decode cL_law 581 = .ok (.aload_n 2, 1) := by decide +kernel
theorem dL_law_582 : decode cL_law 582 = .ok (.invokevirtual 93, 3) := by decide +kernel
theorem dL_law_585 : decode cL_law 585 = .ok (.iload 5, 2) := by decide +kernel
theorem dL_law_587 : decode cL_law 587 = .ok (.if_icmp .eq 5, 3) := by decide +kernel
theorem dL_law_590 : decode cL_law 590 = .ok (.iconst 0, 1) := by decide +kernel
theorem dL_law_591 : decode cL_law 591 = .ok (.ireturn, 1) := by decide +kernel
theorem dL_law_592 : decode cL_law 592 = .ok (.iload 5, 2) := by decide +kernel
theorem dL_law_594 : decode cL_law 594 = .ok (.ifCond .ne 15, 3) := by decide +kernel
theorem dL_law_597 : decode cL_law 597 = .ok (.aload_n 3, 1) := by decide +kernel
theorem dL_law_598 : decode cL_law 598 = .ok (.iconst 0, 1) := by decide +kernel
theorem dL_law_599 : decode cL_law 599 = .ok (.laload, 1) := by decide +kernel
theorem dL_law_600 : decode cL_law 600 = .ok (.iload 6, 2) := by decide +kernel
theorem dL_law_602 : decode cL_law 602 = .ok (.i2l, 1) := by decide +kernel
theorem dL_law_603 : decode cL_law 603 = .ok (.lcmp, 1) := by decide +kernel
theorem dL_law_604 : decode cL_law 604 = .ok (.ifCond .eq 5, 3) := by decide +kernel
theorem dL_law_607 : decode cL_law 607 = .ok (.iconst 0, 1) := by decide +kernel
theorem dL_law_608 : decode cL_law 608 = .ok (.ireturn, 1) := by decide +kernel
theorem dL_law_609 : decode cL_law 609 = .ok (.goto 1009, 3) := by decide +kernel
theorem dL_law_612 : decode cL_law 612 = .ok (.aload_n 1, 1) := by decide +kernel
theorem dL_law_613 : decode cL_law 613 = .ok (.aload_n 0, 1) := by decide +kernel
theorem dL_law_614 : decode cL_law 614 = .ok (.iload 4, 2) := by decide +kernel
theorem dL_law_616 : decode cL_law 616 = .ok (.iconst 1, 1) := by decide +kernel
theorem dL_law_617 : decode cL_law 617 = .ok (.iadd, 1) := by decide +kernel
theorem dL_law_618 : decode cL_law 618 = .ok (.iaload, 1) := by decide +kernel
theorem dL_law_619 : decode cL_law 619 = .ok (.aload_n 0, 1) := by decide +kernel
theorem dL_law_620 : decode cL_law 620 = .ok (.iload 4, 2) := by decide +kernel
theorem dL_law_622 : decode cL_law 622 = .ok (.iconst 2, 1) := by decide +kernel
theorem dL_law_623 : decode cL_law 623 = .ok (.iadd, 1) := by decide +kernel
theorem dL_law_624 : decode cL_law 624 = .ok (.iaload, 1) := by decide +kernel
theorem dL_law_625 : decode cL_law 625 = .ok (.aload_n 3, 1) := by decide +kernel
theorem dL_law_626 : decode cL_law 626 = .ok (.invokestatic 114, 3) := by decide +kernel
theorem dL_law_629 : decode cL_law 629 = .ok (.istore 5, 2) := by decide +kernel
theorem dL_law_631 : decode cL_law 631 = .ok (.aload_n 2, 1) := by decide +kernel
theorem dL_law_632 : decode cL_law 632 = .ok (.aload_n 0, 1) := by decide +kernel
theorem dL_law_633 : decode cL_law 633 = .ok (.iload 4, 2) := by decide +kernel
theorem dL_law_635 : decode cL_law 635 = .ok (.iconst 1, 1) := by decide +kernel
theorem dL_law_636 : decode cL_law 636 = .ok (.iadd, 1) := by decide +kernel
theorem dL_law_637 : decode cL_law 637 = .ok (.iaload, 1) := by decide +kernel
theorem dL_law_638 : decode cL_law 638 = .ok (.aload_n 0, 1) := by decide +kernel
theorem dL_law_639 : decode cL_law 639 = .ok (.iload 4, 2) := by decide +kernel
theorem dL_law_641 : decode cL_law 641 = .ok (.iconst 2, 1) := by decide +kernel
theorem dL_law_642 : decode cL_law 642 = .ok (.iadd, 1) := by decide +kernel
theorem dL_law_643 : decode cL_law 643 = .ok (.iaload, 1) := by decide +kernel
theorem dL_law_644 : decode cL_law 644 = .ok (.invokevirtual 116, 3) := by decide +kernel
theorem dL_law_647 : decode cL_law 647 = .ok (.istore 6, 2) := by decide +kernel
theorem dL_law_649 : decode cL_law 649 = .ok (.aload_n 2, 1) := by decide +kernel
theorem dL_law_650 : decode cL_law 650 = .ok (.invokevirtual 93, 3) := by decide +kernel
theorem dL_law_653 : decode cL_law 653 = .ok (.iload 5, 2) := by decide +kernel
theorem dL_law_655 : decode cL_law 655 = .ok (.if_icmp .eq 5, 3) := by decide +kernel
theorem dL_law_658 : decode cL_law 658 = .ok (.iconst 0, 1) := by decide +kernel
theorem dL_law_659 : decode cL_law 659 = .ok (.ireturn, 1) := by decide +kernel
theorem dL_law_660 : decode cL_law 660 = .ok (.iload 5, 2) := by decide +kernel
theorem dL_law_662 : decode cL_law 662 = .ok (.ifCond .ne 15, 3) := by decide +kernel
theorem dL_law_665 : decode cL_law 665 = .ok (.aload_n 3, 1) := by decide +kernel
theorem dL_law_666 : decode cL_law 666 = .ok (.iconst 0, 1) := by decide +kernel
theorem dL_law_667 : decode cL_law 667 = .ok (.laload, 1) := by decide +kernel
theorem dL_law_668 : decode cL_law 668 = .ok (.iload 6, 2) := by decide +kernel
theorem dL_law_670 : decode cL_law 670 = .ok (.i2l, 1) := by decide +kernel
theorem dL_law_671 : decode cL_law 671 = .ok (.lcmp, 1) := by decide +kernel
theorem dL_law_672 : decode cL_law 672 = .ok (.ifCond .eq 5, 3) := by decide +kernel
theorem dL_law_675 : decode cL_law 675 = .ok (.iconst 0, 1) := by decide +kernel
theorem dL_law_676 : decode cL_law 676 = .ok (.ireturn, 1) := by decide +kernel
theorem dL_law_677 : decode cL_law 677 = .ok (.goto 941, 3) := by decide +kernel
theorem dL_law_680 : decode cL_law 680 = .ok (.aload_n 1, 1) := by decide +kernel
theorem dL_law_681 : decode cL_law 681 = .ok (.aload_n 0, 1) := by decide +kernel
theorem dL_law_682 : decode cL_law 682 = .ok (.iload 4, 2) := by decide +kernel
theorem dL_law_684 : decode cL_law 684 = .ok (.iconst 1, 1) := by decide +kernel
theorem dL_law_685 : decode cL_law 685 = .ok (.iadd, 1) := by decide +kernel
theorem dL_law_686 : decode cL_law 686 = .ok (.iaload, 1) := by decide +kernel
theorem dL_law_687 : decode cL_law 687 = .ok (.aload_n 0, 1) := by decide +kernel
theorem dL_law_688 : decode cL_law 688 = .ok (.iload 4, 2) := by decide +kernel
theorem dL_law_690 : decode cL_law 690 = .ok (.iconst 2, 1) := by decide +kernel
theorem dL_law_691 : decode cL_law 691 = .ok (.iadd, 1) := by decide +kernel
theorem dL_law_692 : decode cL_law 692 = .ok (.iaload, 1) := by decide +kernel
theorem dL_law_693 : decode cL_law 693 = .ok (.aload_n 3, 1) := by decide +kernel
theorem dL_law_694 : decode cL_law 694 = .ok (.invokestatic 117, 3) := by decide +kernel
theorem dL_law_697 : decode cL_law 697 = .ok (.istore 5, 2) := by decide +kernel
theorem dL_law_699 : decode cL_law 699 = .ok (.aload_n 2, 1) := by decide +kernel
theorem dL_law_700 : decode cL_law 700 = .ok (.aload_n 0, 1) := by decide +kernel
theorem dL_law_701 : decode cL_law 701 = .ok (.iload 4, 2) := by decide +kernel
theorem dL_law_703 : decode cL_law 703 = .ok (.iconst 1, 1) := by decide +kernel
theorem dL_law_704 : decode cL_law 704 = .ok (.iadd, 1) := by decide +kernel
theorem dL_law_705 : decode cL_law 705 = .ok (.iaload, 1) := by decide +kernel
theorem dL_law_706 : decode cL_law 706 = .ok (.aload_n 0, 1) := by decide +kernel
theorem dL_law_707 : decode cL_law 707 = .ok (.iload 4, 2) := by decide +kernel
theorem dL_law_709 : decode cL_law 709 = .ok (.iconst 2, 1) := by decide +kernel
theorem dL_law_710 : decode cL_law 710 = .ok (.iadd, 1) := by decide +kernel
theorem dL_law_711 : decode cL_law 711 = .ok (.iaload, 1) := by decide +kernel
theorem dL_law_712 : decode cL_law 712 = .ok (.invokevirtual 119, 3) := by decide +kernel
theorem dL_law_715 : decode cL_law 715 = .ok (.istore 6, 2) := by decide +kernel
theorem dL_law_717 : decode cL_law 717 = .ok (.aload_n 2, 1) := by decide +kernel
theorem dL_law_718 : decode cL_law 718 = .ok (.invokevirtual 93, 3) := by decide +kernel
theorem dL_law_721 : decode cL_law 721 = .ok (.iload 5, 2) := by decide +kernel
theorem dL_law_723 : decode cL_law 723 = .ok (.if_icmp .eq 5, 3) := by decide +kernel
theorem dL_law_726 : decode cL_law 726 = .ok (.iconst 0, 1) := by decide +kernel
theorem dL_law_727 : decode cL_law 727 = .ok (.ireturn, 1) := by decide +kernel
theorem dL_law_728 : decode cL_law 728 = .ok (.iload 5, 2) := by decide +kernel
theorem dL_law_730 : decode cL_law 730 = .ok (.ifCond .ne 15, 3) := by decide +kernel
theorem dL_law_733 : decode cL_law 733 = .ok (.aload_n 3, 1) := by decide +kernel
theorem dL_law_734 : decode cL_law 734 = .ok (.iconst 0, 1) := by decide +kernel
theorem dL_law_735 : decode cL_law 735 = .ok (.laload, 1) := by decide +kernel
theorem dL_law_736 : decode cL_law 736 = .ok (.iload 6, 2) := by decide +kernel
theorem dL_law_738 : decode cL_law 738 = .ok (.i2l, 1) := by decide +kernel
theorem dL_law_739 : decode cL_law 739 = .ok (.lcmp, 1) := by decide +kernel
theorem dL_law_740 : decode cL_law 740 = .ok (.ifCond .eq 5, 3) := by decide +kernel
theorem dL_law_743 : decode cL_law 743 = .ok (.iconst 0, 1) := by decide +kernel
theorem dL_law_744 : decode cL_law 744 = .ok (.ireturn, 1) := by decide +kernel
theorem dL_law_745 : decode cL_law 745 = .ok (.goto 873, 3) := by decide +kernel
theorem dL_law_748 : decode cL_law 748 = .ok (.aload_n 1, 1) := by decide +kernel
theorem dL_law_749 : decode cL_law 749 = .ok (.aload_n 0, 1) := by decide +kernel
theorem dL_law_750 : decode cL_law 750 = .ok (.iload 4, 2) := by decide +kernel
theorem dL_law_752 : decode cL_law 752 = .ok (.iconst 1, 1) := by decide +kernel
theorem dL_law_753 : decode cL_law 753 = .ok (.iadd, 1) := by decide +kernel
theorem dL_law_754 : decode cL_law 754 = .ok (.iaload, 1) := by decide +kernel
theorem dL_law_755 : decode cL_law 755 = .ok (.aload_n 3, 1) := by decide +kernel
theorem dL_law_756 : decode cL_law 756 = .ok (.invokestatic 120, 3) := by decide +kernel
theorem dL_law_759 : decode cL_law 759 = .ok (.istore 5, 2) := by decide +kernel
theorem dL_law_761 : decode cL_law 761 = .ok (.aload_n 2, 1) := by decide +kernel
theorem dL_law_762 : decode cL_law 762 = .ok (.aload_n 0, 1) := by decide +kernel
theorem dL_law_763 : decode cL_law 763 = .ok (.iload 4, 2) := by decide +kernel
theorem dL_law_765 : decode cL_law 765 = .ok (.iconst 1, 1) := by decide +kernel
theorem dL_law_766 : decode cL_law 766 = .ok (.iadd, 1) := by decide +kernel
theorem dL_law_767 : decode cL_law 767 = .ok (.iaload, 1) := by decide +kernel
theorem dL_law_768 : decode cL_law 768 = .ok (.invokevirtual 122, 3) := by decide +kernel
theorem dL_law_771 : decode cL_law 771 = .ok (.istore 6, 2) := by decide +kernel
theorem dL_law_773 : decode cL_law 773 = .ok (.aload_n 2, 1) := by decide +kernel
theorem dL_law_774 : decode cL_law 774 = .ok (.invokevirtual 93, 3) := by decide +kernel
theorem dL_law_777 : decode cL_law 777 = .ok (.iload 5, 2) := by decide +kernel
theorem dL_law_779 : decode cL_law 779 = .ok (.if_icmp .eq 5, 3) := by decide +kernel
theorem dL_law_782 : decode cL_law 782 = .ok (.iconst 0, 1) := by decide +kernel
theorem dL_law_783 : decode cL_law 783 = .ok (.ireturn, 1) := by decide +kernel
theorem dL_law_784 : decode cL_law 784 = .ok (.iload 5, 2) := by decide +kernel
theorem dL_law_786 : decode cL_law 786 = .ok (.ifCond .ne 15, 3) := by decide +kernel
theorem dL_law_789 : decode cL_law 789 = .ok (.aload_n 3, 1) := by decide +kernel
theorem dL_law_790 : decode cL_law 790 = .ok (.iconst 0, 1) := by decide +kernel
theorem dL_law_791 : decode cL_law 791 = .ok (.laload, 1) := by decide +kernel
theorem dL_law_792 : decode cL_law 792 = .ok (.iload 6, 2) := by decide +kernel
theorem dL_law_794 : decode cL_law 794 = .ok (.i2l, 1) := by decide +kernel
theorem dL_law_795 : decode cL_law 795 = .ok (.lcmp, 1) := by decide +kernel
theorem dL_law_796 : decode cL_law 796 = .ok (.ifCond .eq 5, 3) := by decide +kernel
theorem dL_law_799 : decode cL_law 799 = .ok (.iconst 0, 1) := by decide +kernel
theorem dL_law_800 : decode cL_law 800 = .ok (.ireturn, 1) := by decide +kernel
theorem dL_law_801 : decode cL_law 801 = .ok (.goto 817, 3) := by decide +kernel
theorem dL_law_804 : decode cL_law 804 = .ok (.aload_n 1, 1) := by decide +kernel
theorem dL_law_805 : decode cL_law 805 = .ok (.invokevirtual 123, 3) := by decide +kernel
theorem dL_law_808 : decode cL_law 808 = .ok (.aload_n 2, 1) := by decide +kernel
theorem dL_law_809 : decode cL_law 809 = .ok (.invokevirtual 126, 3) := by decide +kernel
theorem dL_law_812 : decode cL_law 812 = .ok (.if_icmp .eq 806, 3) := by decide +kernel
theorem dL_law_815 : decode cL_law 815 = .ok (.iconst 0, 1) := by decide +kernel
theorem dL_law_816 : decode cL_law 816 = .ok (.ireturn, 1) := by decide +kernel
theorem dL_law_817 : decode cL_law 817 = .ok (.aload_n 1, 1) := by decide +kernel
theorem dL_law_818 : decode cL_law 818 = .ok (.invokevirtual 127, 3) := by decide +kernel
theorem dL_law_821 : decode cL_law 821 = .ok (.aload_n 2, 1) := by decide +kernel
theorem dL_law_822 : decode cL_law 822 = .ok (.invokevirtual 130, 3) := by decide +kernel
theorem dL_law_825 : decode cL_law 825 = .ok (.if_icmp .eq 793, 3) := by decide +kernel
theorem dL_law_828 : decode cL_law 828 = .ok (.iconst 0, 1) := by decide +kernel
theorem dL_law_829 : decode cL_law 829 = .ok (.ireturn, 1) := by decide +kernel
theorem dL_law_830 : decode cL_law 830 = .ok (.aload_n 1, 1) := by decide +kernel
theorem dL_law_831 : decode cL_law 831 = .ok (.aload_n 3, 1) := by decide +kernel
theorem dL_law_832 : decode cL_law 832 = .ok (.invokestatic 131, 3) := by decide +kernel
theorem dL_law_835 : decode cL_law 835 = .ok (.istore 5, 2) := by decide +kernel
theorem dL_law_837 : decode cL_law 837 = .ok (.aload_n 2, 1) := by decide +kernel
theorem dL_law_838 : decode cL_law 838 = .ok (.invokevirtual 134, 3) := by decide +kernel
theorem dL_law_841 : decode cL_law 841 = .ok (.istore 6, 2) := by decide +kernel
theorem dL_law_843 : decode cL_law 843 = .ok (.aload_n 2, 1) := by decide +kernel
theorem dL_law_844 : decode cL_law 844 = .ok (.invokevirtual 93, 3) := by decide +kernel
theorem dL_law_847 : decode cL_law 847 = .ok (.iload 5, 2) := by decide +kernel
theorem dL_law_849 : decode cL_law 849 = .ok (.if_icmp .eq 5, 3) := by decide +kernel
theorem dL_law_852 : decode cL_law 852 = .ok (.iconst 0, 1) := by decide +kernel
theorem dL_law_853 : decode cL_law 853 = .ok (.ireturn, 1) := by decide +kernel
theorem dL_law_854 : decode cL_law 854 = .ok (.iload 5, 2) := by decide +kernel
theorem dL_law_856 : decode cL_law 856 = .ok (.ifCond .ne 15, 3) := by decide +kernel
theorem dL_law_859 : decode cL_law 859 = .ok (.aload_n 3, 1) := by decide +kernel
theorem dL_law_860 : decode cL_law 860 = .ok (.iconst 0, 1) := by decide +kernel
theorem dL_law_861 : decode cL_law 861 = .ok (.laload, 1) := by decide +kernel
theorem dL_law_862 : decode cL_law 862 = .ok (.iload 6, 2) := by decide +kernel
theorem dL_law_864 : decode cL_law 864 = .ok (.i2l, 1) := by decide +kernel
theorem dL_law_865 : decode cL_law 865 = .ok (.lcmp, 1) := by decide +kernel
theorem dL_law_866 : decode cL_law 866 = .ok (.ifCond .eq 5, 3) := by decide +kernel
theorem dL_law_869 : decode cL_law 869 = .ok (.iconst 0, 1) := by decide +kernel
theorem dL_law_870 : decode cL_law 870 = .ok (.ireturn, 1) := by decide +kernel
theorem dL_law_871 : decode cL_law 871 = .ok (.goto 747, 3) := by decide +kernel
theorem dL_law_874 : decode cL_law 874 = .ok (.aload_n 1, 1) := by decide +kernel
theorem dL_law_875 : decode cL_law 875 = .ok (.aload_n 0, 1) := by decide +kernel
theorem dL_law_876 : decode cL_law 876 = .ok (.iload 4, 2) := by decide +kernel
theorem dL_law_878 : decode cL_law 878 = .ok (.iconst 1, 1) := by decide +kernel
theorem dL_law_879 : decode cL_law 879 = .ok (.iadd, 1) := by decide +kernel
theorem dL_law_880 : decode cL_law 880 = .ok (.iaload, 1) := by decide +kernel
theorem dL_law_881 : decode cL_law 881 = .ok (.aload_n 0, 1) := by decide +kernel
theorem dL_law_882 : decode cL_law 882 = .ok (.iload 4, 2) := by decide +kernel
theorem dL_law_884 : decode cL_law 884 = .ok (.iconst 2, 1) := by decide +kernel
theorem dL_law_885 : decode cL_law 885 = .ok (.iadd, 1) := by decide +kernel
theorem dL_law_886 : decode cL_law 886 = .ok (.iaload, 1) := by decide +kernel
theorem dL_law_887 : decode cL_law 887 = .ok (.aload_n 3, 1) := by decide +kernel
theorem dL_law_888 : decode cL_law 888 = .ok (.invokestatic 135, 3) := by decide +kernel
theorem dL_law_891 : decode cL_law 891 = .ok (.istore 5, 2) := by decide +kernel
theorem dL_law_893 : decode cL_law 893 = .ok (.aload_n 2, 1) := by decide +kernel
theorem dL_law_894 : decode cL_law 894 = .ok (.aload_n 0, 1) := by decide +kernel
theorem dL_law_895 : decode cL_law 895 = .ok (.iload 4, 2) := by decide +kernel
theorem dL_law_897 : decode cL_law 897 = .ok (.iconst 1, 1) := by decide +kernel
theorem dL_law_898 : decode cL_law 898 = .ok (.iadd, 1) := by decide +kernel
theorem dL_law_899 : decode cL_law 899 = .ok (.iaload, 1) := by decide +kernel
theorem dL_law_900 : decode cL_law 900 = .ok (.aload_n 0, 1) := by decide +kernel
theorem dL_law_901 : decode cL_law 901 = .ok (.iload 4, 2) := by decide +kernel
theorem dL_law_903 : decode cL_law 903 = .ok (.iconst 2, 1) := by decide +kernel
theorem dL_law_904 : decode cL_law 904 = .ok (.iadd, 1) := by decide +kernel
theorem dL_law_905 : decode cL_law 905 = .ok (.iaload, 1) := by decide +kernel
theorem dL_law_906 : decode cL_law 906 = .ok (.invokevirtual 137, 3) := by decide +kernel
theorem dL_law_909 : decode cL_law 909 = .ok (.istore 6, 2) := by decide +kernel
theorem dL_law_911 : decode cL_law 911 = .ok (.aload_n 2, 1) := by decide +kernel
theorem dL_law_912 : decode cL_law 912 = .ok (.invokevirtual 93, 3) := by decide +kernel
theorem dL_law_915 : decode cL_law 915 = .ok (.iload 5, 2) := by decide +kernel
theorem dL_law_917 : decode cL_law 917 = .ok (.if_icmp .eq 5, 3) := by decide +kernel
theorem dL_law_920 : decode cL_law 920 = .ok (.iconst 0, 1) := by decide +kernel
theorem dL_law_921 : decode cL_law 921 = .ok (.ireturn, 1) := by decide +kernel
theorem dL_law_922 : decode cL_law 922 = .ok (.iload 5, 2) := by decide +kernel
theorem dL_law_924 : decode cL_law 924 = .ok (.ifCond .ne 15, 3) := by decide +kernel
theorem dL_law_927 : decode cL_law 927 = .ok (.aload_n 3, 1) := by decide +kernel
theorem dL_law_928 : decode cL_law 928 = .ok (.iconst 0, 1) := by decide +kernel
theorem dL_law_929 : decode cL_law 929 = .ok (.laload, 1) := by decide +kernel
theorem dL_law_930 : decode cL_law 930 = .ok (.iload 6, 2) := by decide +kernel
theorem dL_law_932 : decode cL_law 932 = .ok (.i2l, 1) := by decide +kernel
theorem dL_law_933 : decode cL_law 933 = .ok (.lcmp, 1) := by decide +kernel
theorem dL_law_934 : decode cL_law 934 = .ok (.ifCond .eq 5, 3) := by decide +kernel
theorem dL_law_937 : decode cL_law 937 = .ok (.iconst 0, 1) := by decide +kernel
theorem dL_law_938 : decode cL_law 938 = .ok (.ireturn, 1) := by decide +kernel
theorem dL_law_939 : decode cL_law 939 = .ok (.goto 679, 3) := by decide +kernel
theorem dL_law_942 : decode cL_law 942 = .ok (.aload_n 1, 1) := by decide +kernel
theorem dL_law_943 : decode cL_law 943 = .ok (.aload_n 3, 1) := by decide +kernel
theorem dL_law_944 : decode cL_law 944 = .ok (.invokestatic 138, 3) := by decide +kernel
theorem dL_law_947 : decode cL_law 947 = .ok (.istore 5, 2) := by decide +kernel
theorem dL_law_949 : decode cL_law 949 = .ok (.aload_n 2, 1) := by decide +kernel
theorem dL_law_950 : decode cL_law 950 = .ok (.invokevirtual 140, 3) := by decide +kernel
theorem dL_law_953 : decode cL_law 953 = .ok (.istore 6, 2) := by decide +kernel
theorem dL_law_955 : decode cL_law 955 = .ok (.aload_n 2, 1) := by decide +kernel
theorem dL_law_956 : decode cL_law 956 = .ok (.invokevirtual 93, 3) := by decide +kernel
theorem dL_law_959 : decode cL_law 959 = .ok (.iload 5, 2) := by decide +kernel
theorem dL_law_961 : decode cL_law 961 = .ok (.if_icmp .eq 5, 3) := by decide +kernel
theorem dL_law_964 : decode cL_law 964 = .ok (.iconst 0, 1) := by decide +kernel
theorem dL_law_965 : decode cL_law 965 = .ok (.ireturn, 1) := by decide +kernel
theorem dL_law_966 : decode cL_law 966 = .ok (.iload 5, 2) := by decide +kernel
theorem dL_law_968 : decode cL_law 968 = .ok (.ifCond .ne 15, 3) := by decide +kernel
theorem dL_law_971 : decode cL_law 971 = .ok (.aload_n 3, 1) := by decide +kernel
theorem dL_law_972 : decode cL_law 972 = .ok (.iconst 0, 1) := by decide +kernel
theorem dL_law_973 : decode cL_law 973 = .ok (.laload, 1) := by decide +kernel
theorem dL_law_974 : decode cL_law 974 = .ok (.iload 6, 2) := by decide +kernel
theorem dL_law_976 : decode cL_law 976 = .ok (.i2l, 1) := by decide +kernel
theorem dL_law_977 : decode cL_law 977 = .ok (.lcmp, 1) := by decide +kernel
theorem dL_law_978 : decode cL_law 978 = .ok (.ifCond .eq 5, 3) := by decide +kernel
theorem dL_law_981 : decode cL_law 981 = .ok (.iconst 0, 1) := by decide +kernel
theorem dL_law_982 : decode cL_law 982 = .ok (.ireturn, 1) := by decide +kernel
theorem dL_law_983 : decode cL_law 983 = .ok (.goto 635, 3) := by decide +kernel
theorem dL_law_986 : decode cL_law 986 = .ok (.aload_n 1, 1) := by decide +kernel
theorem dL_law_987 : decode cL_law 987 = .ok (.invokevirtual 141, 3) := by decide +kernel
theorem dL_law_990 : decode cL_law 990 = .ok (.aload_n 2, 1) := by decide +kernel
theorem dL_law_991 : decode cL_law 991 = .ok (.invokevirtual 144, 3) := by decide +kernel
theorem dL_law_994 : decode cL_law 994 = .ok (.if_icmp .eq 624, 3) := by decide +kernel
theorem dL_law_997 : decode cL_law 997 = .ok (.iconst 0, 1) := by decide +kernel
theorem dL_law_998 : decode cL_law 998 = .ok (.ireturn, 1) := by decide +kernel
theorem dL_law_999 : decode cL_law 999 = .ok (.aload_n 1, 1) := by decide +kernel
theorem dL_law_1000 : decode cL_law 1000 = .ok (.aload_n 3, 1) := by decide +kernel
theorem dL_law_1001 : decode cL_law 1001 = .ok (.invokestatic 145, 3) := by decide +kernel
theorem dL_law_1004 : decode cL_law 1004 = .ok (.istore 5, 2) := by decide +kernel
theorem dL_law_1006 : decode cL_law 1006 = .ok (.aload_n 2, 1) := by decide +kernel
theorem dL_law_1007 : decode cL_law 1007 = .ok (.invokevirtual 147, 3) := by decide +kernel
theorem dL_law_1010 : decode cL_law 1010 = .ok (.istore 6, 2) := by decide +kernel
theorem dL_law_1012 : decode cL_law 1012 = .ok (.aload_n 2, 1) := by decide +kernel
theorem dL_law_1013 : decode cL_law 1013 = .ok (.invokevirtual 93, 3) := by decide +kernel
theorem dL_law_1016 : decode cL_law 1016 = .ok (.iload 5, 2) := by decide +kernel
theorem dL_law_1018 : decode cL_law 1018 = .ok (.if_icmp .eq 5, 3) := by decide +kernel
theorem dL_law_1021 : decode cL_law 1021 = .ok (.iconst 0, 1) := by decide +kernel
theorem dL_law_1022 : decode cL_law 1022 = .ok (.ireturn, 1) := by decide +kernel
theorem dL_law_1023 : decode cL_law 1023 = .ok (.iload 5, 2) := by decide +kernel
theorem dL_law_1025 : decode cL_law 1025 = .ok (.ifCond .ne 15, 3) := by decide +kernel
theorem dL_law_1028 : decode cL_law 1028 = .ok (.aload_n 3, 1) := by decide +kernel
theorem dL_law_1029 : decode cL_law 1029 = .ok (.iconst 0, 1) := by decide +kernel
theorem dL_law_1030 : decode cL_law 1030 = .ok (.laload, 1) := by decide +kernel
theorem dL_law_1031 : decode cL_law 1031 = .ok (.iload 6, 2) := by decide +kernel
theorem dL_law_1033 : decode cL_law 1033 = .ok (.i2l, 1) := by decide +kernel
theorem dL_law_1034 : decode cL_law 1034 = .ok (.lcmp, 1) := by decide +kernel
theorem dL_law_1035 : decode cL_law 1035 = .ok (.ifCond .eq 5, 3) := by decide +kernel
theorem dL_law_1038 : decode cL_law 1038 = .ok (.iconst 0, 1) := by decide +kernel
theorem dL_law_1039 : decode cL_law 1039 = .ok (.ireturn, 1) := by decide +kernel
theorem dL_law_1040 : decode cL_law 1040 = .ok (.goto 578, 3) := by decide +kernel
theorem dL_law_1043 : decode cL_law 1043 = .ok (.aload_n 1, 1) := by decide +kernel
theorem dL_law_1044 : decode cL_law 1044 = .ok (.aload_n 0, 1) := by decide +kernel
theorem dL_law_1045 : decode cL_law 1045 = .ok (.iload 4, 2) := by decide +kernel
theorem dL_law_1047 : decode cL_law 1047 = .ok (.iconst 1, 1) := by decide +kernel
theorem dL_law_1048 : decode cL_law 1048 = .ok (.iadd, 1) := by decide +kernel
theorem dL_law_1049 : decode cL_law 1049 = .ok (.iaload, 1) := by decide +kernel
theorem dL_law_1050 : decode cL_law 1050 = .ok (.aload_n 0, 1) := by decide +kernel
theorem dL_law_1051 : decode cL_law 1051 = .ok (.iload 4, 2) := by decide +kernel
theorem dL_law_1053 : decode cL_law 1053 = .ok (.iconst 2, 1) := by decide +kernel
theorem dL_law_1054 : decode cL_law 1054 = .ok (.iadd, 1) := by decide +kernel
theorem dL_law_1055 : decode cL_law 1055 = .ok (.iaload, 1) := by decide +kernel
theorem dL_law_1056 : decode cL_law 1056 = .ok (.aload_n 0, 1) := by decide +kernel
theorem dL_law_1057 : decode cL_law 1057 = .ok (.iload 4, 2) := by decide +kernel
theorem dL_law_1059 : decode cL_law 1059 = .ok (.iconst 3, 1) := by decide +kernel
theorem dL_law_1060 : decode cL_law 1060 = .ok (.iadd, 1) := by decide +kernel
theorem dL_law_1061 : decode cL_law 1061 = .ok (.iaload, 1) := by decide +kernel
theorem dL_law_1062 : decode cL_law 1062 = .ok (.aload_n 3, 1) := by decide +kernel
theorem dL_law_1063 : decode cL_law 1063 = .ok (.invokestatic 148, 3) := by decide +kernel
theorem dL_law_1066 : decode cL_law 1066 = .ok (.istore 5, 2) := by decide +kernel
theorem dL_law_1068 : decode cL_law 1068 = .ok (.aload_n 2, 1) := by decide +kernel
theorem dL_law_1069 : decode cL_law 1069 = .ok (.aload_n 0, 1) := by decide +kernel
theorem dL_law_1070 : decode cL_law 1070 = .ok (.iload 4, 2) := by decide +kernel
theorem dL_law_1072 : decode cL_law 1072 = .ok (.iconst 1, 1) := by decide +kernel
theorem dL_law_1073 : decode cL_law 1073 = .ok (.iadd, 1) := by decide +kernel
theorem dL_law_1074 : decode cL_law 1074 = .ok (.iaload, 1) := by decide +kernel
theorem dL_law_1075 : decode cL_law 1075 = .ok (.aload_n 0, 1) := by decide +kernel
theorem dL_law_1076 : decode cL_law 1076 = .ok (.iload 4, 2) := by decide +kernel
theorem dL_law_1078 : decode cL_law 1078 = .ok (.iconst 2, 1) := by decide +kernel
theorem dL_law_1079 : decode cL_law 1079 = .ok (.iadd, 1) := by decide +kernel
theorem dL_law_1080 : decode cL_law 1080 = .ok (.iaload, 1) := by decide +kernel
theorem dL_law_1081 : decode cL_law 1081 = .ok (.aload_n 0, 1) := by decide +kernel
theorem dL_law_1082 : decode cL_law 1082 = .ok (.iload 4, 2) := by decide +kernel
theorem dL_law_1084 : decode cL_law 1084 = .ok (.iconst 3, 1) := by decide +kernel
theorem dL_law_1085 : decode cL_law 1085 = .ok (.iadd, 1) := by decide +kernel
theorem dL_law_1086 : decode cL_law 1086 = .ok (.iaload, 1) := by decide +kernel
theorem dL_law_1087 : decode cL_law 1087 = .ok (.invokevirtual 150, 3) := by decide +kernel
theorem dL_law_1090 : decode cL_law 1090 = .ok (.istore 6, 2) := by decide +kernel
theorem dL_law_1092 : decode cL_law 1092 = .ok (.aload_n 2, 1) := by decide +kernel
theorem dL_law_1093 : decode cL_law 1093 = .ok (.invokevirtual 93, 3) := by decide +kernel
theorem dL_law_1096 : decode cL_law 1096 = .ok (.iload 5, 2) := by decide +kernel
theorem dL_law_1098 : decode cL_law 1098 = .ok (.if_icmp .eq 5, 3) := by decide +kernel
theorem dL_law_1101 : decode cL_law 1101 = .ok (.iconst 0, 1) := by decide +kernel
theorem dL_law_1102 : decode cL_law 1102 = .ok (.ireturn, 1) := by decide +kernel
theorem dL_law_1103 : decode cL_law 1103 = .ok (.iload 5, 2) := by decide +kernel
theorem dL_law_1105 : decode cL_law 1105 = .ok (.ifCond .ne 15, 3) := by decide +kernel
theorem dL_law_1108 : decode cL_law 1108 = .ok (.aload_n 3, 1) := by decide +kernel
theorem dL_law_1109 : decode cL_law 1109 = .ok (.iconst 0, 1) := by decide +kernel
theorem dL_law_1110 : decode cL_law 1110 = .ok (.laload, 1) := by decide +kernel
theorem dL_law_1111 : decode cL_law 1111 = .ok (.iload 6, 2) := by decide +kernel
theorem dL_law_1113 : decode cL_law 1113 = .ok (.i2l, 1) := by decide +kernel
theorem dL_law_1114 : decode cL_law 1114 = .ok (.lcmp, 1) := by decide +kernel
theorem dL_law_1115 : decode cL_law 1115 = .ok (.ifCond .eq 5, 3) := by decide +kernel
theorem dL_law_1118 : decode cL_law 1118 = .ok (.iconst 0, 1) := by decide +kernel
theorem dL_law_1119 : decode cL_law 1119 = .ok (.ireturn, 1) := by decide +kernel
theorem dL_law_1120 : decode cL_law 1120 = .ok (.goto 498, 3) := by decide +kernel
theorem dL_law_1123 : decode cL_law 1123 = .ok (.aload_n 1, 1) := by decide +kernel
theorem dL_law_1124 : decode cL_law 1124 = .ok (.aload_n 0, 1) := by decide +kernel
theorem dL_law_1125 : decode cL_law 1125 = .ok (.iload 4, 2) := by decide +kernel
theorem dL_law_1127 : decode cL_law 1127 = .ok (.iconst 1, 1) := by decide +kernel
theorem dL_law_1128 : decode cL_law 1128 = .ok (.iadd, 1) := by decide +kernel
theorem dL_law_1129 : decode cL_law 1129 = .ok (.iaload, 1) := by decide +kernel
theorem dL_law_1130 : decode cL_law 1130 = .ok (.aload_n 0, 1) := by decide +kernel
theorem dL_law_1131 : decode cL_law 1131 = .ok (.iload 4, 2) := by decide +kernel
theorem dL_law_1133 : decode cL_law 1133 = .ok (.iconst 2, 1) := by decide +kernel
theorem dL_law_1134 : decode cL_law 1134 = .ok (.iadd, 1) := by decide +kernel
theorem dL_law_1135 : decode cL_law 1135 = .ok (.iaload, 1) := by decide +kernel
theorem dL_law_1136 : decode cL_law 1136 = .ok (.aload_n 3, 1) := by decide +kernel
theorem dL_law_1137 : decode cL_law 1137 = .ok (.invokestatic 151, 3) := by decide +kernel
theorem dL_law_1140 : decode cL_law 1140 = .ok (.istore 5, 2) := by decide +kernel
theorem dL_law_1142 : decode cL_law 1142 = .ok (.aload_n 2, 1) := by decide +kernel
theorem dL_law_1143 : decode cL_law 1143 = .ok (.aload_n 0, 1) := by decide +kernel
theorem dL_law_1144 : decode cL_law 1144 = .ok (.iload 4, 2) := by decide +kernel
theorem dL_law_1146 : decode cL_law 1146 = .ok (.iconst 1, 1) := by decide +kernel
theorem dL_law_1147 : decode cL_law 1147 = .ok (.iadd, 1) := by decide +kernel
theorem dL_law_1148 : decode cL_law 1148 = .ok (.iaload, 1) := by decide +kernel
theorem dL_law_1149 : decode cL_law 1149 = .ok (.aload_n 0, 1) := by decide +kernel
theorem dL_law_1150 : decode cL_law 1150 = .ok (.iload 4, 2) := by decide +kernel
theorem dL_law_1152 : decode cL_law 1152 = .ok (.iconst 2, 1) := by decide +kernel
theorem dL_law_1153 : decode cL_law 1153 = .ok (.iadd, 1) := by decide +kernel
theorem dL_law_1154 : decode cL_law 1154 = .ok (.iaload, 1) := by decide +kernel
theorem dL_law_1155 : decode cL_law 1155 = .ok (.invokevirtual 153, 3) := by decide +kernel
theorem dL_law_1158 : decode cL_law 1158 = .ok (.istore 6, 2) := by decide +kernel
theorem dL_law_1160 : decode cL_law 1160 = .ok (.aload_n 2, 1) := by decide +kernel
theorem dL_law_1161 : decode cL_law 1161 = .ok (.invokevirtual 93, 3) := by decide +kernel
theorem dL_law_1164 : decode cL_law 1164 = .ok (.iload 5, 2) := by decide +kernel
theorem dL_law_1166 : decode cL_law 1166 = .ok (.if_icmp .eq 5, 3) := by decide +kernel
theorem dL_law_1169 : decode cL_law 1169 = .ok (.iconst 0, 1) := by decide +kernel
theorem dL_law_1170 : decode cL_law 1170 = .ok (.ireturn, 1) := by decide +kernel
theorem dL_law_1171 : decode cL_law 1171 = .ok (.iload 5, 2) := by decide +kernel
theorem dL_law_1173 : decode cL_law 1173 = .ok (.ifCond .ne 15, 3) := by decide +kernel
theorem dL_law_1176 : decode cL_law 1176 = .ok (.aload_n 3, 1) := by decide +kernel
theorem dL_law_1177 : decode cL_law 1177 = .ok (.iconst 0, 1) := by decide +kernel
theorem dL_law_1178 : decode cL_law 1178 = .ok (.laload, 1) := by decide +kernel
theorem dL_law_1179 : decode cL_law 1179 = .ok (.iload 6, 2) := by decide +kernel
theorem dL_law_1181 : decode cL_law 1181 = .ok (.i2l, 1) := by decide +kernel
theorem dL_law_1182 : decode cL_law 1182 = .ok (.lcmp, 1) := by decide +kernel
theorem dL_law_1183 : decode cL_law 1183 = .ok (.ifCond .eq 5, 3) := by decide +kernel
theorem dL_law_1186 : decode cL_law 1186 = .ok (.iconst 0, 1) := by decide +kernel
theorem dL_law_1187 : decode cL_law 1187 = .ok (.ireturn, 1) := by decide +kernel
theorem dL_law_1188 : decode cL_law 1188 = .ok (.goto 430, 3) := by decide +kernel
theorem dL_law_1191 : decode cL_law 1191 = .ok (.aload_n 1, 1) := by decide +kernel
theorem dL_law_1192 : decode cL_law 1192 = .ok (.aload_n 0, 1) := by decide +kernel
theorem dL_law_1193 : decode cL_law 1193 = .ok (.iload 4, 2) := by decide +kernel
theorem dL_law_1195 : decode cL_law 1195 = .ok (.iconst 1, 1) := by decide +kernel
theorem dL_law_1196 : decode cL_law 1196 = .ok (.iadd, 1) := by decide +kernel
theorem dL_law_1197 : decode cL_law 1197 = .ok (.iaload, 1) := by decide +kernel
theorem dL_law_1198 : decode cL_law 1198 = .ok (.aload_n 3, 1) := by decide +kernel
theorem dL_law_1199 : decode cL_law 1199 = .ok (.invokestatic 154, 3) := by decide +kernel
theorem dL_law_1202 : decode cL_law 1202 = .ok (.istore 5, 2) := by decide +kernel
theorem dL_law_1204 : decode cL_law 1204 = .ok (.aload_n 2, 1) := by decide +kernel
theorem dL_law_1205 : decode cL_law 1205 = .ok (.aload_n 0, 1) := by decide +kernel
theorem dL_law_1206 : decode cL_law 1206 = .ok (.iload 4, 2) := by decide +kernel
theorem dL_law_1208 : decode cL_law 1208 = .ok (.iconst 1, 1) := by decide +kernel
theorem dL_law_1209 : decode cL_law 1209 = .ok (.iadd, 1) := by decide +kernel
theorem dL_law_1210 : decode cL_law 1210 = .ok (.iaload, 1) := by decide +kernel
theorem dL_law_1211 : decode cL_law 1211 = .ok (.invokevirtual 156, 3) := by decide +kernel
theorem dL_law_1214 : decode cL_law 1214 = .ok (.istore 6, 2) := by decide +kernel
theorem dL_law_1216 : decode cL_law 1216 = .ok (.aload_n 2, 1) := by decide +kernel
theorem dL_law_1217 : decode cL_law 1217 = .ok (.invokevirtual 93, 3) := by decide +kernel
theorem dL_law_1220 : decode cL_law 1220 = .ok (.iload 5, 2) := by decide +kernel
theorem dL_law_1222 : decode cL_law 1222 = .ok (.if_icmp .eq 5, 3) := by decide +kernel
theorem dL_law_1225 : decode cL_law 1225 = .ok (.iconst 0, 1) := by decide +kernel
theorem dL_law_1226 : decode cL_law 1226 = .ok (.ireturn, 1) := by decide +kernel
theorem dL_law_1227 : decode cL_law 1227 = .ok (.iload 5, 2) := by decide +kernel
theorem dL_law_1229 : decode cL_law 1229 = .ok (.ifCond .ne 15, 3) := by decide +kernel
theorem dL_law_1232 : decode cL_law 1232 = .ok (.aload_n 3, 1) := by decide +kernel
theorem dL_law_1233 : decode cL_law 1233 = .ok (.iconst 0, 1) := by decide +kernel
theorem dL_law_1234 : decode cL_law 1234 = .ok (.laload, 1) := by decide +kernel
theorem dL_law_1235 : decode cL_law 1235 = .ok (.iload 6, 2) := by decide +kernel
theorem dL_law_1237 : decode cL_law 1237 = .ok (.i2l, 1) := by decide +kernel
theorem dL_law_1238 : decode cL_law 1238 = .ok (.lcmp, 1) := by decide +kernel
theorem dL_law_1239 : decode cL_law 1239 = .ok (.ifCond .eq 5, 3) := by decide +kernel
theorem dL_law_1242 : decode cL_law 1242 = .ok (.iconst 0, 1) := by decide +kernel
theorem dL_law_1243 : decode cL_law 1243 = .ok (.ireturn, 1) := by decide +kernel
theorem dL_law_1244 : decode cL_law 1244 = .ok (.goto 374, 3) := by decide +kernel
theorem dL_law_1247 : decode cL_law 1247 = .ok (.aload_n 1, 1) := by decide +kernel
theorem dL_law_1248 : decode cL_law 1248 = .ok (.aload_n 0, 1) := by decide +kernel
theorem dL_law_1249 : decode cL_law 1249 = .ok (.iload 4, 2) := by decide +kernel
theorem dL_law_1251 : decode cL_law 1251 = .ok (.iconst 1, 1) := by decide +kernel
theorem dL_law_1252 : decode cL_law 1252 = .ok (.iadd, 1) := by decide +kernel
theorem dL_law_1253 : decode cL_law 1253 = .ok (.iaload, 1) := by decide +kernel
theorem dL_law_1254 : decode cL_law 1254 = .ok (.aload_n 3, 1) := by decide +kernel
theorem dL_law_1255 : decode cL_law 1255 = .ok (.invokestatic 157, 3) := by decide +kernel
theorem dL_law_1258 : decode cL_law 1258 = .ok (.istore 5, 2) := by decide +kernel
theorem dL_law_1260 : decode cL_law 1260 = .ok (.aload_n 2, 1) := by decide +kernel
theorem dL_law_1261 : decode cL_law 1261 = .ok (.aload_n 0, 1) := by decide +kernel
theorem dL_law_1262 : decode cL_law 1262 = .ok (.iload 4, 2) := by decide +kernel
theorem dL_law_1264 : decode cL_law 1264 = .ok (.iconst 1, 1) := by decide +kernel
theorem dL_law_1265 : decode cL_law 1265 = .ok (.iadd, 1) := by decide +kernel
theorem dL_law_1266 : decode cL_law 1266 = .ok (.iaload, 1) := by decide +kernel
theorem dL_law_1267 : decode cL_law 1267 = .ok (.invokevirtual 159, 3) := by decide +kernel
theorem dL_law_1270 : decode cL_law 1270 = .ok (.istore 6, 2) := by decide +kernel
theorem dL_law_1272 : decode cL_law 1272 = .ok (.aload_n 2, 1) := by decide +kernel
theorem dL_law_1273 : decode cL_law 1273 = .ok (.invokevirtual 93, 3) := by decide +kernel
theorem dL_law_1276 : decode cL_law 1276 = .ok (.iload 5, 2) := by decide +kernel
theorem dL_law_1278 : decode cL_law 1278 = .ok (.if_icmp .eq 5, 3) := by decide +kernel
theorem dL_law_1281 : decode cL_law 1281 = .ok (.iconst 0, 1) := by decide +kernel
theorem dL_law_1282 : decode cL_law 1282 = .ok (.ireturn, 1) := by decide +kernel
theorem dL_law_1283 : decode cL_law 1283 = .ok (.iload 5, 2) := by decide +kernel
theorem dL_law_1285 : decode cL_law 1285 = .ok (.ifCond .ne 15, 3) := by decide +kernel
theorem dL_law_1288 : decode cL_law 1288 = .ok (.aload_n 3, 1) := by decide +kernel
theorem dL_law_1289 : decode cL_law 1289 = .ok (.iconst 0, 1) := by decide +kernel
theorem dL_law_1290 : decode cL_law 1290 = .ok (.laload, 1) := by decide +kernel
theorem dL_law_1291 : decode cL_law 1291 = .ok (.iload 6, 2) := by decide +kernel
theorem dL_law_1293 : decode cL_law 1293 = .ok (.i2l, 1) := by decide +kernel
theorem dL_law_1294 : decode cL_law 1294 = .ok (.lcmp, 1) := by decide +kernel
theorem dL_law_1295 : decode cL_law 1295 = .ok (.ifCond .eq 5, 3) := by decide +kernel
theorem dL_law_1298 : decode cL_law 1298 = .ok (.iconst 0, 1) := by decide +kernel
theorem dL_law_1299 : decode cL_law 1299 = .ok (.ireturn, 1) := by decide +kernel
theorem dL_law_1300 : decode cL_law 1300 = .ok (.goto 318, 3) := by decide +kernel
theorem dL_law_1303 : decode cL_law 1303 = .ok (.aload_n 1, 1) := by decide +kernel
theorem dL_law_1304 : decode cL_law 1304 = .ok (.aload_n 0, 1) := by decide +kernel
theorem dL_law_1305 : decode cL_law 1305 = .ok (.iload 4, 2) := by decide +kernel
theorem dL_law_1307 : decode cL_law 1307 = .ok (.iconst 1, 1) := by decide +kernel
theorem dL_law_1308 : decode cL_law 1308 = .ok (.iadd, 1) := by decide +kernel
theorem dL_law_1309 : decode cL_law 1309 = .ok (.iaload, 1) := by decide +kernel
theorem dL_law_1310 : decode cL_law 1310 = .ok (.aload_n 0, 1) := by decide +kernel
theorem dL_law_1311 : decode cL_law 1311 = .ok (.iload 4, 2) := by decide +kernel
theorem dL_law_1313 : decode cL_law 1313 = .ok (.iconst 2, 1) := by decide +kernel
theorem dL_law_1314 : decode cL_law 1314 = .ok (.iadd, 1) := by decide +kernel
theorem dL_law_1315 : decode cL_law 1315 = .ok (.iaload, 1) := by decide +kernel
theorem dL_law_1316 : decode cL_law 1316 = .ok (.aload_n 0, 1) := by decide +kernel
theorem dL_law_1317 : decode cL_law 1317 = .ok (.iload 4, 2) := by decide +kernel
theorem dL_law_1319 : decode cL_law 1319 = .ok (.iconst 3, 1) := by decide +kernel
theorem dL_law_1320 : decode cL_law 1320 = .ok (.iadd, 1) := by decide +kernel
theorem dL_law_1321 : decode cL_law 1321 = .ok (.iaload, 1) := by decide +kernel
theorem dL_law_1322 : decode cL_law 1322 = .ok (.aload_n 0, 1) := by decide +kernel
theorem dL_law_1323 : decode cL_law 1323 = .ok (.iload 4, 2) := by decide +kernel
theorem dL_law_1325 : decode cL_law 1325 = .ok (.iconst 4, 1) := by decide +kernel
theorem dL_law_1326 : decode cL_law 1326 = .ok (.iadd, 1) := by decide +kernel
theorem dL_law_1327 : decode cL_law 1327 = .ok (.iaload, 1) := by decide +kernel
theorem dL_law_1328 : decode cL_law 1328 = .ok (.aload_n 3, 1) := by decide +kernel
theorem dL_law_1329 : decode cL_law 1329 = .ok (.invokestatic 160, 3) := by decide +kernel
theorem dL_law_1332 : decode cL_law 1332 = .ok (.istore 5, 2) := by decide +kernel
theorem dL_law_1334 : decode cL_law 1334 = .ok (.aload_n 2, 1) := by decide +kernel
theorem dL_law_1335 : decode cL_law 1335 = .ok (.aload_n 0, 1) := by decide +kernel
theorem dL_law_1336 : decode cL_law 1336 = .ok (.iload 4, 2) := by decide +kernel
theorem dL_law_1338 : decode cL_law 1338 = .ok (.iconst 1, 1) := by decide +kernel
theorem dL_law_1339 : decode cL_law 1339 = .ok (.iadd, 1) := by decide +kernel
theorem dL_law_1340 : decode cL_law 1340 = .ok (.iaload, 1) := by decide +kernel
theorem dL_law_1341 : decode cL_law 1341 = .ok (.aload_n 0, 1) := by decide +kernel
theorem dL_law_1342 : decode cL_law 1342 = .ok (.iload 4, 2) := by decide +kernel
theorem dL_law_1344 : decode cL_law 1344 = .ok (.iconst 2, 1) := by decide +kernel
theorem dL_law_1345 : decode cL_law 1345 = .ok (.iadd, 1) := by decide +kernel
theorem dL_law_1346 : decode cL_law 1346 = .ok (.iaload, 1) := by decide +kernel
theorem dL_law_1347 : decode cL_law 1347 = .ok (.aload_n 0, 1) := by decide +kernel
theorem dL_law_1348 : decode cL_law 1348 = .ok (.iload 4, 2) := by decide +kernel
theorem dL_law_1350 : decode cL_law 1350 = .ok (.iconst 3, 1) := by decide +kernel
theorem dL_law_1351 : decode cL_law 1351 = .ok (.iadd, 1) := by decide +kernel
theorem dL_law_1352 : decode cL_law 1352 = .ok (.iaload, 1) := by decide +kernel
theorem dL_law_1353 : decode cL_law 1353 = .ok (.aload_n 0, 1) := by decide +kernel
theorem dL_law_1354 : decode cL_law 1354 = .ok (.iload 4, 2) := by decide +kernel
theorem dL_law_1356 : decode cL_law 1356 = .ok (.iconst 4, 1) := by decide +kernel
theorem dL_law_1357 : decode cL_law 1357 = .ok (.iadd, 1) := by decide +kernel
theorem dL_law_1358 : decode cL_law 1358 = .ok (.iaload, 1) := by decide +kernel
theorem dL_law_1359 : decode cL_law 1359 = .ok (.invokevirtual 162, 3) := by decide +kernel
theorem dL_law_1362 : decode cL_law 1362 = .ok (.istore 6, 2) := by decide +kernel
theorem dL_law_1364 : decode cL_law 1364 = .ok (.aload_n 2, 1) := by decide +kernel
theorem dL_law_1365 : decode cL_law 1365 = .ok (.invokevirtual 93, 3) := by decide +kernel
theorem dL_law_1368 : decode cL_law 1368 = .ok (.iload 5, 2) := by decide +kernel
theorem dL_law_1370 : decode cL_law 1370 = .ok (.if_icmp .eq 5, 3) := by decide +kernel
theorem dL_law_1373 : decode cL_law 1373 = .ok (.iconst 0, 1) := by decide +kernel
theorem dL_law_1374 : decode cL_law 1374 = .ok (.ireturn, 1) := by decide +kernel
theorem dL_law_1375 : decode cL_law 1375 = .ok (.iload 5, 2) := by decide +kernel
theorem dL_law_1377 : decode cL_law 1377 = .ok (.ifCond .ne 15, 3) := by decide +kernel
theorem dL_law_1380 : decode cL_law 1380 = .ok (.aload_n 3, 1) := by decide +kernel
theorem dL_law_1381 : decode cL_law 1381 = .ok (.iconst 0, 1) := by decide +kernel
theorem dL_law_1382 : decode cL_law 1382 = .ok (.laload, 1) := by decide +kernel
theorem dL_law_1383 : decode cL_law 1383 = .ok (.iload 6, 2) := by decide +kernel
theorem dL_law_1385 : decode cL_law 1385 = .ok (.i2l, 1) := by decide +kernel
theorem dL_law_1386 : decode cL_law 1386 = .ok (.lcmp, 1) := by decide +kernel
theorem dL_law_1387 : decode cL_law 1387 = .ok (.ifCond .eq 5, 3) := by decide +kernel
theorem dL_law_1390 : decode cL_law 1390 = .ok (.iconst 0, 1) := by decide +kernel
theorem dL_law_1391 : decode cL_law 1391 = .ok (.ireturn, 1) := by decide +kernel
theorem dL_law_1392 : decode cL_law 1392 = .ok (.goto 226, 3) := by decide +kernel
theorem dL_law_1395 : decode cL_law 1395 = .ok (.aload_n 1, 1) := by decide +kernel
theorem dL_law_1396 : decode cL_law 1396 = .ok (.aload_n 0, 1) := by decide +kernel
theorem dL_law_1397 : decode cL_law 1397 = .ok (.iload 4, 2) := by decide +kernel
theorem dL_law_1399 : decode cL_law 1399 = .ok (.iconst 1, 1) := by decide +kernel
theorem dL_law_1400 : decode cL_law 1400 = .ok (.iadd, 1) := by decide +kernel
theorem dL_law_1401 : decode cL_law 1401 = .ok (.iaload, 1) := by decide +kernel
theorem dL_law_1402 : decode cL_law 1402 = .ok (.aload_n 3, 1) := by decide +kernel
theorem dL_law_1403 : decode cL_law 1403 = .ok (.invokestatic 163, 3) := by decide +kernel
theorem dL_law_1406 : decode cL_law 1406 = .ok (.istore 5, 2) := by decide +kernel
theorem dL_law_1408 : decode cL_law 1408 = .ok (.aload_n 2, 1) := by decide +kernel
theorem dL_law_1409 : decode cL_law 1409 = .ok (.aload_n 0, 1) := by decide +kernel
theorem dL_law_1410 : decode cL_law 1410 = .ok (.iload 4, 2) := by decide +kernel
theorem dL_law_1412 : decode cL_law 1412 = .ok (.iconst 1, 1) := by decide +kernel
theorem dL_law_1413 : decode cL_law 1413 = .ok (.iadd, 1) := by decide +kernel
theorem dL_law_1414 : decode cL_law 1414 = .ok (.iaload, 1) := by decide +kernel
theorem dL_law_1415 : decode cL_law 1415 = .ok (.invokevirtual 165, 3) := by decide +kernel
theorem dL_law_1418 : decode cL_law 1418 = .ok (.istore 6, 2) := by decide +kernel
theorem dL_law_1420 : decode cL_law 1420 = .ok (.aload_n 2, 1) := by decide +kernel
theorem dL_law_1421 : decode cL_law 1421 = .ok (.invokevirtual 93, 3) := by decide +kernel
theorem dL_law_1424 : decode cL_law 1424 = .ok (.iload 5, 2) := by decide +kernel
theorem dL_law_1426 : decode cL_law 1426 = .ok (.if_icmp .eq 5, 3) := by decide +kernel
theorem dL_law_1429 : decode cL_law 1429 = .ok (.iconst 0, 1) := by decide +kernel
theorem dL_law_1430 : decode cL_law 1430 = .ok (.ireturn, 1) := by decide +kernel
theorem dL_law_1431 : decode cL_law 1431 = .ok (.iload 5, 2) := by decide +kernel
theorem dL_law_1433 : decode cL_law 1433 = .ok (.ifCond .ne 15, 3) := by decide +kernel
theorem dL_law_1436 : decode cL_law 1436 = .ok (.aload_n 3, 1) := by decide +kernel
theorem dL_law_1437 : decode cL_law 1437 = .ok (.iconst 0, 1) := by decide +kernel
theorem dL_law_1438 : decode cL_law 1438 = .ok (.laload, 1) := by decide +kernel
theorem dL_law_1439 : decode cL_law 1439 = .ok (.iload 6, 2) := by decide +kernel
theorem dL_law_1441 : decode cL_law 1441 = .ok (.i2l, 1) := by decide +kernel
theorem dL_law_1442 : decode cL_law 1442 = .ok (.lcmp, 1) := by decide +kernel
theorem dL_law_1443 : decode cL_law 1443 = .ok (.ifCond .eq 5, 3) := by decide +kernel
theorem dL_law_1446 : decode cL_law 1446 = .ok (.iconst 0, 1) := by decide +kernel
theorem dL_law_1447 : decode cL_law 1447 = .ok (.ireturn, 1) := by decide +kernel
theorem dL_law_1448 : decode cL_law 1448 = .ok (.goto 170, 3) := by decide +kernel
theorem dL_law_1451 : decode cL_law 1451 = .ok (.aload_n 1, 1) := by decide +kernel
theorem dL_law_1452 : decode cL_law 1452 = .ok (.aload_n 0, 1) := by decide +kernel
theorem dL_law_1453 : decode cL_law 1453 = .ok (.iload 4, 2) := by decide +kernel
theorem dL_law_1455 : decode cL_law 1455 = .ok (.iconst 1, 1) := by decide +kernel
theorem dL_law_1456 : decode cL_law 1456 = .ok (.iadd, 1) := by decide +kernel
theorem dL_law_1457 : decode cL_law 1457 = .ok (.iaload, 1) := by decide +kernel
theorem dL_law_1458 : decode cL_law 1458 = .ok (.aload_n 3, 1) := by decide +kernel
theorem dL_law_1459 : decode cL_law 1459 = .ok (.invokestatic 166, 3) := by decide +kernel
theorem dL_law_1462 : decode cL_law 1462 = .ok (.istore 5, 2) := by decide +kernel
theorem dL_law_1464 : decode cL_law 1464 = .ok (.aload_n 2, 1) := by decide +kernel
theorem dL_law_1465 : decode cL_law 1465 = .ok (.aload_n 0, 1) := by decide +kernel
theorem dL_law_1466 : decode cL_law 1466 = .ok (.iload 4, 2) := by decide +kernel
theorem dL_law_1468 : decode cL_law 1468 = .ok (.iconst 1, 1) := by decide +kernel
theorem dL_law_1469 : decode cL_law 1469 = .ok (.iadd, 1) := by decide +kernel
theorem dL_law_1470 : decode cL_law 1470 = .ok (.iaload, 1) := by decide +kernel
theorem dL_law_1471 : decode cL_law 1471 = .ok (.invokevirtual 168, 3) := by decide +kernel
theorem dL_law_1474 : decode cL_law 1474 = .ok (.istore 6, 2) := by decide +kernel
theorem dL_law_1476 : decode cL_law 1476 = .ok (.aload_n 2, 1) := by decide +kernel
theorem dL_law_1477 : decode cL_law 1477 = .ok (.invokevirtual 93, 3) := by decide +kernel
theorem dL_law_1480 : decode cL_law 1480 = .ok (.iload 5, 2) := by decide +kernel
theorem dL_law_1482 : decode cL_law 1482 = .ok (.if_icmp .eq 5, 3) := by decide +kernel
theorem dL_law_1485 : decode cL_law 1485 = .ok (.iconst 0, 1) := by decide +kernel
theorem dL_law_1486 : decode cL_law 1486 = .ok (.ireturn, 1) := by decide +kernel
theorem dL_law_1487 : decode cL_law 1487 = .ok (.iload 5, 2) := by decide +kernel
theorem dL_law_1489 : decode cL_law 1489 = .ok (.ifCond .ne 15, 3) := by decide +kernel
theorem dL_law_1492 : decode cL_law 1492 = .ok (.aload_n 3, 1) := by decide +kernel
theorem dL_law_1493 : decode cL_law 1493 = .ok (.iconst 0, 1) := by decide +kernel
theorem dL_law_1494 : decode cL_law 1494 = .ok (.laload, 1) := by decide +kernel
theorem dL_law_1495 : decode cL_law 1495 = .ok (.iload 6, 2) := by decide +kernel
theorem dL_law_1497 : decode cL_law 1497 = .ok (.i2l, 1) := by decide +kernel
theorem dL_law_1498 : decode cL_law 1498 = .ok (.lcmp, 1) := by decide +kernel
theorem dL_law_1499 : decode cL_law 1499 = .ok (.ifCond .eq 5, 3) := by decide +kernel
theorem dL_law_1502 : decode cL_law 1502 = .ok (.iconst 0, 1) := by decide +kernel
theorem dL_law_1503 : decode cL_law 1503 = .ok (.ireturn, 1) := by decide +kernel
theorem dL_law_1504 : decode cL_law 1504 = .ok (.goto 114, 3) := by decide +kernel
theorem dL_law_1507 : decode cL_law 1507 = .ok (.aload_n 1, 1) := by decide +kernel
theorem dL_law_1508 : decode cL_law 1508 = .ok (.aload_n 0, 1) := by decide +kernel
theorem dL_law_1509 : decode cL_law 1509 = .ok (.iload 4, 2) := by decide +kernel
theorem dL_law_1511 : decode cL_law 1511 = .ok (.iconst 1, 1) := by decide +kernel
theorem dL_law_1512 : decode cL_law 1512 = .ok (.iadd, 1) := by decide +kernel
theorem dL_law_1513 : decode cL_law 1513 = .ok (.iaload, 1) := by decide +kernel
theorem dL_law_1514 : decode cL_law 1514 = .ok (.aload_n 3, 1) := by decide +kernel
theorem dL_law_1515 : decode cL_law 1515 = .ok (.invokestatic 169, 3) := by decide +kernel
theorem dL_law_1518 : decode cL_law 1518 = .ok (.istore 5, 2) := by decide +kernel
theorem dL_law_1520 : decode cL_law 1520 = .ok (.aload_n 2, 1) := by decide +kernel
theorem dL_law_1521 : decode cL_law 1521 = .ok (.aload_n 0, 1) := by decide +kernel
theorem dL_law_1522 : decode cL_law 1522 = .ok (.iload 4, 2) := by decide +kernel
theorem dL_law_1524 : decode cL_law 1524 = .ok (.iconst 1, 1) := by decide +kernel
theorem dL_law_1525 : decode cL_law 1525 = .ok (.iadd, 1) := by decide +kernel
theorem dL_law_1526 : decode cL_law 1526 = .ok (.iaload, 1) := by decide +kernel
theorem dL_law_1527 : decode cL_law 1527 = .ok (.invokevirtual 171, 3) := by decide +kernel
theorem dL_law_1530 : decode cL_law 1530 = .ok (.istore 6, 2) := by decide +kernel
theorem dL_law_1532 : decode cL_law 1532 = .ok (.aload_n 2, 1) := by decide +kernel
theorem dL_law_1533 : decode cL_law 1533 = .ok (.invokevirtual 93, 3) := by decide +kernel
theorem dL_law_1536 : decode cL_law 1536 = .ok (.iload 5, 2) := by decide +kernel
theorem dL_law_1538 : decode cL_law 1538 = .ok (.if_icmp .eq 5, 3) := by decide +kernel
theorem dL_law_1541 : decode cL_law 1541 = .ok (.iconst 0, 1) := by decide +kernel
theorem dL_law_1542 : decode cL_law 1542 = .ok (.ireturn, 1) := by decide +kernel
theorem dL_law_1543 : decode cL_law 1543 = .ok (.iload 5, 2) := by decide +kernel
theorem dL_law_1545 : decode cL_law 1545 = .ok (.ifCond .ne 15, 3) := by decide +kernel
theorem dL_law_1548 : decode cL_law 1548 = .ok (.aload_n 3, 1) := by decide +kernel
theorem dL_law_1549 : decode cL_law 1549 = .ok (.iconst 0, 1) := by decide +kernel
theorem dL_law_1550 : decode cL_law 1550 = .ok (.laload, 1) := by decide +kernel
theorem dL_law_1551 : decode cL_law 1551 = .ok (.iload 6, 2) := by decide +kernel
theorem dL_law_1553 : decode cL_law 1553 = .ok (.i2l, 1) := by decide +kernel
theorem dL_law_1554 : decode cL_law 1554 = .ok (.lcmp, 1) := by decide +kernel
theorem dL_law_1555 : decode cL_law 1555 = .ok (.ifCond .eq 5, 3) := by decide +kernel
theorem dL_law_1558 : decode cL_law 1558 = .ok (.iconst 0, 1) := by decide +kernel
theorem dL_law_1559 : decode cL_law 1559 = .ok (.ireturn, 1) := by decide +kernel
theorem dL_law_1560 : decode cL_law 1560 = .ok (.goto 58, 3) := by decide +kernel
theorem dL_law_1563 : decode cL_law 1563 = .ok (.aload_n 1, 1) := by decide +kernel
theorem dL_law_1564 : decode cL_law 1564 = .ok (.invokevirtual 172, 3) := by decide +kernel
theorem dL_law_1567 : decode cL_law 1567 = .ok (.dstore 5, 2) := by decide +kernel
theorem dL_law_1569 : decode cL_law 1569 = .ok (.aload_n 2, 1) := by decide +kernel
theorem dL_law_1570 : decode cL_law 1570 = .ok (.invokevirtual 176, 3) := by decide +kernel
theorem dL_law_1573 : decode cL_law 1573 = .ok (.dstore 7, 2) := by decide +kernel
theorem dL_law_1575 : decode cL_law 1575 = .ok (.dload 5, 2) := by decide +kernel
theorem dL_law_1577 : decode cL_law 1577 = .ok (.dload 7, 2) := by decide +kernel
theorem dL_law_1579 : decode cL_law 1579 = .ok (.dcmp .l, 1) := by decide +kernel
theorem dL_law_1580 : decode cL_law 1580 = .ok (.ifCond .eq 21, 3) := by decide +kernel
theorem dL_law_1583 : decode cL_law 1583 = .ok (.dload 5, 2) := by decide +kernel
theorem dL_law_1585 : decode cL_law 1585 = .ok (.dload 5, 2) := by decide +kernel
theorem dL_law_1587 : decode cL_law 1587 = .ok (.dcmp .l, 1) := by decide +kernel
theorem dL_law_1588 : decode cL_law 1588 = .ok (.ifCond .eq 11, 3) := by decide +kernel
theorem dL_law_1591 : decode cL_law 1591 = .ok (.dload 7, 2) := by decide +kernel
theorem dL_law_1593 : decode cL_law 1593 = .ok (.dload 7, 2) := by decide +kernel
theorem dL_law_1595 : decode cL_law 1595 = .ok (.dcmp .l, 1) := by decide +kernel
theorem dL_law_1596 : decode cL_law 1596 = .ok (.ifCond .ne 5, 3) := by decide +kernel
theorem dL_law_1599 : decode cL_law 1599 = .ok (.iconst 0, 1) := by decide +kernel
theorem dL_law_1600 : decode cL_law 1600 = .ok (.ireturn, 1) := by decide +kernel
theorem dL_law_1601 : decode cL_law 1601 = .ok (.goto 17, 3) := by decide +kernel
theorem dL_law_1604 : decode cL_law 1604 = .ok (.aload_n 1, 1) := by decide +kernel
theorem dL_law_1605 : decode cL_law 1605 = .ok (.invokevirtual 177, 3) := by decide +kernel
theorem dL_law_1608 : decode cL_law 1608 = .ok (.aload_n 2, 1) := by decide +kernel
theorem dL_law_1609 : decode cL_law 1609 = .ok (.invokevirtual 181, 3) := by decide +kernel
theorem dL_law_1612 : decode cL_law 1612 = .ok (.lcmp, 1) := by decide +kernel
theorem dL_law_1613 : decode cL_law 1613 = .ok (.ifCond .eq 5, 3) := by decide +kernel
theorem dL_law_1616 : decode cL_law 1616 = .ok (.iconst 0, 1) := by decide +kernel
theorem dL_law_1617 : decode cL_law 1617 = .ok (.ireturn, 1) := by decide +kernel
theorem dL_law_1618 : decode cL_law 1618 = .ok (.iinc 4 5, 3) := by decide +kernel
theorem dL_law_1621 : decode cL_law 1621 = .ok (.goto (-1598), 3) := by decide +kernel
theorem dL_law_1624 : decode cL_law 1624 = .ok (.iconst 1, 1) := by decide +kernel
theorem dL_law_1625 : decode cL_law 1625 = .ok (.ireturn, 1) := by decide +kernel
abbrev vwCl : List vw_C := [(RX0, TX0, 2), (RX1, TX1, 9), (RX2, TX2, 3), (RX3, TX3, 3), (RX4, TX4, 4), (RX5, TX5, 7), (RX6, TX6, 8), (RX7, TX7, 19)]
end
section
/-! VALUES, THE WORLD, THE WALK. All cells of the run lie in ONE picture: 80 cells by their numbers (OddChoir 0, its choirs 1, 6, 11, the history 16 with choirs 18, 23 .., the text 48, the tree 50, the orders 64, the model 68, the answers 79). xM: what they hold. WP: the machine, at this instruction with these locals, stack and world, comes to an end with Q. -/
abbrev xV : Type := Int32 ⊕ ((Option Nat) ⊕ (Int64 ⊕ (UInt64 ⊕ (Nat ⊕ Unit))))
abbrev vI (x : Int32) : xV := Sum.inl x
abbrev vR (r : Option Nat) : xV := Sum.inr (Sum.inl r)
abbrev vL (x : Int64) : xV := Sum.inr (Sum.inr (Sum.inl x))
abbrev vD (x : UInt64) : xV := Sum.inr (Sum.inr (Sum.inr (Sum.inl x)))
abbrev vQ (q : Nat) : xV := Sum.inr (Sum.inr (Sum.inr (Sum.inr (Sum.inl q))))
abbrev vU : xV := Sum.inr (Sum.inr (Sum.inr (Sum.inr (Sum.inr ()))))
abbrev vA (a : Nat) : xV := vR (some a)
abbrev xM : Type := (Nat → Nat → Int32) × ((Nat → Nat → Option Nat) × (Nat → Nat → Int64))
def xrv (ad : Nat → Nat) : Option Nat → Value
  | none => .null
  | some a => .ref (ad a)
def xc (ad : Nat → Nat) : xV → Value
  | .inl x => .int x
  | .inr (.inl r) => xrv ad r
  | .inr (.inr (.inl x)) => .long x
  | .inr (.inr (.inr (.inl x))) => .double x
  | .inr (.inr (.inr (.inr (.inl q)))) => .ref q
  | .inr (.inr (.inr (.inr (.inr _)))) => .null
def xcat : xV → Nat
  | .inl _ => 1
  | .inr (.inl _) => 1
  | .inr (.inr (.inl _)) => 2
  | .inr (.inr (.inr (.inl _))) => 2
  | .inr (.inr (.inr (.inr _))) => 1
def xU : xV → Bool
  | .inr (.inr (.inr (.inr (.inr _)))) => true
  | _ => false
/-- what stays of a value below one that is stored behind it -/
def xn2 : xV → xV
  | .inr (.inr (.inl _)) => vU
  | .inr (.inr (.inr (.inl _))) => vU
  | v => v
theorem xrv_cat (ad : Nat → Nat) (r : Option Nat) : (xrv ad r).category = 1 := by cases r <;> rfl
theorem xc_cat (ad : Nat → Nat) (v : xV) : (xc ad v).category = xcat v := by
  rcases v with x | r | x | x | q | u
  · rfl
  · exact xrv_cat ad r
  · rfl
  · rfl
  · rfl
  · rfl
theorem xn2_of {v w : xV} (h : xn2 v = w) (hu : xU w = false) : v = w ∧ xcat v = 1 := by
  rcases v with x | r | x | x | q | u
  · exact ⟨h, rfl⟩
  · exact ⟨h, rfl⟩
  · subst h; cases hu
  · subst h; cases hu
  · exact ⟨h, rfl⟩
  · subst h; cases hu
/-- the cells: class (0 to 7) or kind of array (8 int, 9 char, 10 long, 11 of choirs, 12 of nodes), and how many fields or places -/
def xkL : List (Nat × Nat) := [(6,8),(1,9),(8,4),(8,24),(8,24),(8,24),(1,9),(8,4),(8,24),(8,24),(8,24),(1,9),(8,4),(8,24),(8,24),(8,24),(3,3),(11,6),(1,9),(8,4),(8,24),(8,24),(8,24),(1,9),(8,4),(8,24),(8,24),(8,24),(1,9),(8,4),(8,24),(8,24),(8,24),(1,9),(8,4),(8,24),(8,24),(8,24),(1,9),(8,4),(8,24),(8,24),(8,24),(1,9),(8,4),(8,24),(8,24),(8,24),(0,2),(9,60),(2,3),(12,12),(4,4),(4,4),(4,4),(4,4),(4,4),(4,4),(4,4),(4,4),(4,4),(4,4),(4,4),(4,4),(5,7),(8,6),(8,6),(8,6),(7,19),(8,81),(8,486),(8,81),(8,6),(8,6),(8,60),(8,12),(8,12),(8,12),(8,12),(10,1)]
def xk (a : Nat) : Nat × Nat := xkL.getD a (99, 0)
theorem xk_lt {a : Nat} {q : Nat × Nat} (h : xk a = q) (hq : q.1 ≠ 99) : a < 80 := by
  rcases Nat.lt_or_ge a 80 with g | g
  · exact g
  · exfalso; apply hq; rw [← h]; unfold xk; rw [List.getD_eq_getElem?_getD, List.getElem?_eq_none (show xkL.length ≤ a from g)]; rfl
/-- the types of the fields: 0 int or boolean, 1 a reference that never changes, 2 a reference, 3 long -/
def xftL : List (List Nat) := [[1,0],[1,1,1,1,0,0,0,0,0],[1,2,0],[1,0,0],[0,0,2,2],[1,1,1,0,0,0,0],[1,1,1,0,1,1,1,1],[1,1,0,1,0,0,1,1,0,0,1,0,0,0,1,1,1,1,3]]
def xft (ci k : Nat) : Nat := (xftL.getD ci []).getD k 0
def xcr (ci a k : Nat) : Nat := if ci = 6 then [1,6,11,0,16,48,50,64].getD k 0 else if ci = 7 then [69,70,0,71,0,0,72,73,0,0,74,0,0,0,75,76,77,78,0].getD k 0 else a + 1 + k
def xgr (M : xM) (ci a k : Nat) : Option Nat := if xft ci k = 1 then some (xcr ci a k) else M.2.1 a k
def xfv (ad : Nat → Nat) (M : xM) (ci a k : Nat) : Value := if xft ci k = 0 then .int (M.1 a k) else if xft ci k = 3 then .long (M.2.2 a k) else xrv ad (xgr M ci a k)
/-- where the run stands: the classes, the array classes, the cells' addresses, the texts' and their bytes' -/
abbrev xE : Type := va_G × ((Nat → ClassId) × ((Nat → Nat) × ((Nat → Nat) × (Nat → Nat))))
def xent (E : xE) (M : xM) (a : Nat) : va_E :=
  if (xk a).1 = 8 then .inl (E.2.1 0, (xk a).2, .inl (M.1 a))
  else if (xk a).1 = 9 then .inl (E.2.1 1, (xk a).2, .inl (M.1 a))
  else if (xk a).1 = 10 then .inl (E.2.1 2, (xk a).2, .inr (.inl (M.2.2 a)))
  else if (xk a).1 = 11 then .inl (E.2.1 3, (xk a).2, .inr (.inr (.inr (.inr (fun k => some (E.2.2.1 (18 + 5 * k)))))))
  else if (xk a).1 = 12 then .inl (E.2.1 4, (xk a).2, .inr (.inr (.inr (.inr (fun k => some (E.2.2.1 (52 + k)))))))
  else .inr ((xk a).1, (List.range (xk a).2).map (xfv E.2.2.1 M (xk a).1 a))
abbrev xTy (E : xE) : List (ClassId × FieldType) := [(E.2.1 0, .int), (E.2.1 1, .char), (E.2.1 2, .long), (E.2.1 3, .object RX1), (E.2.1 4, .object RX4)]
def xws (E : xE) (M : xM) : va_W := (List.range 80).map (fun a => (E.2.2.1 a, xent E M a))
def xA (E : xE) : Nat → Prop := fun q => ∃ a, a < 80 ∧ q = E.2.2.1 a
theorem xws_at (E : xE) (M : xM) {a : Nat} (h : a < 80) : (xws E M)[a]? = some (E.2.2.1 a, xent E M a) := by
  simp [xws, h]
theorem xent_arr {E : xE} {M : xM} {a n : Nat} (h : xk a = (8, n)) : xent E M a = .inl (E.2.1 0, n, .inl (M.1 a)) := by simp [xent, h]
theorem xent_chr {E : xE} {M : xM} {a n : Nat} (h : xk a = (9, n)) : xent E M a = .inl (E.2.1 1, n, .inl (M.1 a)) := by simp [xent, h]
theorem xent_lng {E : xE} {M : xM} {a n : Nat} (h : xk a = (10, n)) : xent E M a = .inl (E.2.1 2, n, .inr (.inl (M.2.2 a))) := by simp [xent, h]
theorem xent_chs {E : xE} {M : xM} {a n : Nat} (h : xk a = (11, n)) : xent E M a = .inl (E.2.1 3, n, .inr (.inr (.inr (.inr (fun k => some (E.2.2.1 (18 + 5 * k))))))) := by simp [xent, h]
theorem xent_nds {E : xE} {M : xM} {a n : Nat} (h : xk a = (12, n)) : xent E M a = .inl (E.2.1 4, n, .inr (.inr (.inr (.inr (fun k => some (E.2.2.1 (52 + k))))))) := by simp [xent, h]
theorem xent_obj {E : xE} {M : xM} {a ci n : Nat} (h : xk a = (ci, n)) (hc : ci < 8) : xent E M a = .inr (ci, (List.range n).map (xfv E.2.2.1 M ci a)) := by
  have h1 : ci ≠ 8 := by omega
  have h2 : ci ≠ 9 := by omega
  have h3 : ci ≠ 10 := by omega
  have h4 : ci ≠ 11 := by omega
  have h5 : ci ≠ 12 := by omega
  simp [xent, h, h1, h2, h3, h4, h5]
theorem xws_obj (E : xE) (M : xM) {a ci n : Nat} (h : xk a = (ci, n)) (hc : ci < 8) : (xws E M)[a]? = some (E.2.2.1 a, .inr (ci, (List.range n).map (xfv E.2.2.1 M ci a))) := by
  rw [xws_at E M (xk_lt h (by show ci ≠ 99; omega)), xent_obj h hc]
theorem xws_arr (E : xE) (M : xM) {a n : Nat} (h : xk a = (8, n)) : (xws E M)[a]? = some (E.2.2.1 a, .inl (E.2.1 0, n, .inl (M.1 a))) := by
  rw [xws_at E M (xk_lt h (show (8 : Nat) ≠ 99 by decide)), xent_arr h]
theorem xws_chr (E : xE) (M : xM) {a n : Nat} (h : xk a = (9, n)) : (xws E M)[a]? = some (E.2.2.1 a, .inl (E.2.1 1, n, .inl (M.1 a))) := by
  rw [xws_at E M (xk_lt h (show (9 : Nat) ≠ 99 by decide)), xent_chr h]
theorem xws_lng (E : xE) (M : xM) {a n : Nat} (h : xk a = (10, n)) : (xws E M)[a]? = some (E.2.2.1 a, .inl (E.2.1 2, n, .inr (.inl (M.2.2 a)))) := by
  rw [xws_at E M (xk_lt h (show (10 : Nat) ≠ 99 by decide)), xent_lng h]
theorem xws_chs (E : xE) (M : xM) {a n : Nat} (h : xk a = (11, n)) : (xws E M)[a]? = some (E.2.2.1 a, .inl (E.2.1 3, n, .inr (.inr (.inr (.inr (fun k => some (E.2.2.1 (18 + 5 * k)))))))) := by
  rw [xws_at E M (xk_lt h (show (11 : Nat) ≠ 99 by decide)), xent_chs h]
theorem xws_nds (E : xE) (M : xM) {a n : Nat} (h : xk a = (12, n)) : (xws E M)[a]? = some (E.2.2.1 a, .inl (E.2.1 4, n, .inr (.inr (.inr (.inr (fun k => some (E.2.2.1 (52 + k)))))))) := by
  rw [xws_at E M (xk_lt h (show (12 : Nat) ≠ 99 by decide)), xent_nds h]
/-- writes -/
def upI (M : xM) (a k : Nat) (x : Int32) : xM := (fun b j => if b = a ∧ j = k then x else M.1 b j, M.2)
def upR (M : xM) (a k : Nat) (r : Option Nat) : xM := (M.1, (fun b j => if b = a ∧ j = k then r else M.2.1 b j, M.2.2))
def upL (M : xM) (a k : Nat) (x : Int64) : xM := (M.1, (M.2.1, fun b j => if b = a ∧ j = k then x else M.2.2 b j))
theorem upI_row {M : xM} {a k : Nat} {x : Int32} {b : Nat} (h : b ≠ a) : (upI M a k x).1 b = M.1 b := by
  funext j; show (if b = a ∧ j = k then x else M.1 b j) = M.1 b j; rw [if_neg (fun z => h z.1)]
theorem upI_self {M : xM} {a k : Nat} {x : Int32} : (upI M a k x).1 a = upd (M.1 a) k x := by
  funext j; show (if a = a ∧ j = k then x else M.1 a j) = upd (M.1 a) k x j
  unfold upd
  by_cases h : j = k
  · rw [if_pos ⟨rfl, h⟩, if_pos h]
  · rw [if_neg (fun z => h z.2), if_neg h]
theorem upR_row {M : xM} {a k : Nat} {x : Option Nat} {b : Nat} (h : b ≠ a) : (upR M a k x).2.1 b = M.2.1 b := by
  funext j; show (if b = a ∧ j = k then x else M.2.1 b j) = M.2.1 b j; rw [if_neg (fun z => h z.1)]
theorem upL_row {M : xM} {a k : Nat} {x : Int64} {b : Nat} (h : b ≠ a) : (upL M a k x).2.2 b = M.2.2 b := by
  funext j; show (if b = a ∧ j = k then x else M.2.2 b j) = M.2.2 b j; rw [if_neg (fun z => h z.1)]
theorem upL_self {M : xM} {a k : Nat} {x : Int64} : (upL M a k x).2.2 a = fun j => if j = k then x else M.2.2 a j := by
  funext j; show (if a = a ∧ j = k then x else M.2.2 a j) = _
  by_cases h : j = k
  · rw [if_pos ⟨rfl, h⟩, if_pos h]
  · rw [if_neg (fun z => h z.2), if_neg h]
/-- a cell of the world's list is changed -/
theorem xws_set {E : xE} {M M' : xM} {a : Nat} {e : va_E} (ha : a < 80) (he : xent E M' a = e) (ho : ∀ b, b ≠ a → xent E M' b = xent E M b) : (xws E M).set a (E.2.2.1 a, e) = xws E M' := by
  apply List.ext_getElem?
  intro i
  rw [List.getElem?_set]
  by_cases hi : a = i
  · subst hi
    rw [if_pos rfl, if_pos (by simp [xws, ha]), xws_at E M' ha, he]
  · rw [if_neg hi]
    unfold xws
    rw [List.getElem?_map, List.getElem?_map]
    cases hr : (List.range 80)[i]? with
    | none => rfl
    | some j =>
      have hj : j = i := by
        have := List.getElem?_eq_some_iff.mp hr
        obtain ⟨h1, h2⟩ := this
        rw [← h2]; simp
      subst hj
      simp only [Option.map_some]
      rw [ho j (fun z => hi z.symm)]
theorem xent_of {E : xE} {M M' : xM} {b : Nat} (h1 : M'.1 b = M.1 b) (h2 : M'.2.1 b = M.2.1 b) (h3 : M'.2.2 b = M.2.2 b) : xent E M' b = xent E M b := by
  unfold xent
  rw [h1, h3]
  have : ∀ k, xfv E.2.2.1 M' (xk b).1 b k = xfv E.2.2.1 M (xk b).1 b k := fun k => by unfold xfv xgr; rw [h1, h2, h3]
  rw [show xfv E.2.2.1 M' (xk b).1 b = xfv E.2.2.1 M (xk b).1 b from funext this]
theorem xws_putI {E : xE} {M : xM} {a ci n k : Nat} {x : Int32} (h : xk a = (ci, n)) (hc : ci < 8) (hf : xft ci k = 0) (hk : k < n) :
    (xws E M).set a (E.2.2.1 a, .inr (ci, ((List.range n).map (xfv E.2.2.1 M ci a)).set k (.int x))) = xws E (upI M a k x) := by
  refine xws_set (xk_lt h (by show ci ≠ 99; omega)) ?_ (fun b hb => xent_of (upI_row hb) rfl rfl)
  rw [xent_obj h hc]
  congr 2
  apply List.ext_getElem?
  intro i
  rw [List.getElem?_set]
  by_cases hi : k = i
  · subst hi
    rw [if_pos rfl, if_pos (by simpa using hk)]
    simp [hk, xfv, hf, upI]
  · rw [if_neg hi, List.getElem?_map, List.getElem?_map]
    cases hr : (List.range n)[i]? with
    | none => rfl
    | some j =>
      obtain ⟨h1, h2⟩ := List.getElem?_eq_some_iff.mp hr
      have hj : j = i := by rw [← h2]; simp
      subst hj
      simp only [Option.map_some]
      have hjk : j ≠ k := fun z => hi z.symm
      simp [xfv, xgr, upI, hjk]
theorem xws_putR {E : xE} {M : xM} {a ci n k : Nat} {x : Option Nat} (h : xk a = (ci, n)) (hc : ci < 8) (hf : xft ci k = 2) (hk : k < n) :
    (xws E M).set a (E.2.2.1 a, .inr (ci, ((List.range n).map (xfv E.2.2.1 M ci a)).set k (xrv E.2.2.1 x))) = xws E (upR M a k x) := by
  refine xws_set (xk_lt h (by show ci ≠ 99; omega)) ?_ (fun b hb => xent_of rfl (upR_row hb) rfl)
  rw [xent_obj h hc]
  congr 2
  apply List.ext_getElem?
  intro i
  rw [List.getElem?_set]
  by_cases hi : k = i
  · subst hi
    rw [if_pos rfl, if_pos (by simpa using hk)]
    simp [hk, xfv, xgr, hf, upR]
  · rw [if_neg hi, List.getElem?_map, List.getElem?_map]
    cases hr : (List.range n)[i]? with
    | none => rfl
    | some j =>
      obtain ⟨h1, h2⟩ := List.getElem?_eq_some_iff.mp hr
      have hj : j = i := by rw [← h2]; simp
      subst hj
      simp only [Option.map_some]
      have hjk : j ≠ k := fun z => hi z.symm
      simp [xfv, xgr, upR, hjk]
theorem xws_putL {E : xE} {M : xM} {a ci n k : Nat} {x : Int64} (h : xk a = (ci, n)) (hc : ci < 8) (hf : xft ci k = 3) (hk : k < n) :
    (xws E M).set a (E.2.2.1 a, .inr (ci, ((List.range n).map (xfv E.2.2.1 M ci a)).set k (.long x))) = xws E (upL M a k x) := by
  refine xws_set (xk_lt h (by show ci ≠ 99; omega)) ?_ (fun b hb => xent_of rfl rfl (upL_row hb))
  rw [xent_obj h hc]
  congr 2
  apply List.ext_getElem?
  intro i
  rw [List.getElem?_set]
  by_cases hi : k = i
  · subst hi
    rw [if_pos rfl, if_pos (by simpa using hk)]
    simp [hk, xfv, hf, upL]
  · rw [if_neg hi, List.getElem?_map, List.getElem?_map]
    cases hr : (List.range n)[i]? with
    | none => rfl
    | some j =>
      obtain ⟨h1, h2⟩ := List.getElem?_eq_some_iff.mp hr
      have hj : j = i := by rw [← h2]; simp
      subst hj
      simp only [Option.map_some]
      have hjk : j ≠ k := fun z => hi z.symm
      simp [xfv, xgr, upL, hjk]
theorem xws_sti {E : xE} {M : xM} {a n k : Nat} {x : Int32} (h : xk a = (8, n)) : (xws E M).set a (E.2.2.1 a, .inl (E.2.1 0, n, .inl (upd (M.1 a) k x))) = xws E (upI M a k x) :=
  xws_set (xk_lt h (show (8 : Nat) ≠ 99 by decide)) (by rw [xent_arr h, upI_self]) (fun b hb => xent_of (upI_row hb) rfl rfl)
theorem xws_stc {E : xE} {M : xM} {a n k : Nat} {x : Int32} (h : xk a = (9, n)) : (xws E M).set a (E.2.2.1 a, .inl (E.2.1 1, n, .inl (upd (M.1 a) k x))) = xws E (upI M a k x) :=
  xws_set (xk_lt h (show (9 : Nat) ≠ 99 by decide)) (by rw [xent_chr h, upI_self]) (fun b hb => xent_of (upI_row hb) rfl rfl)
theorem xws_stl {E : xE} {M : xM} {a n k : Nat} {x : Int64} (h : xk a = (10, n)) : (xws E M).set a (E.2.2.1 a, .inl (E.2.1 2, n, .inr (.inl (fun j => if j = k then x else M.2.2 a j)))) = xws E (upL M a k x) :=
  xws_set (xk_lt h (show (10 : Nat) ≠ 99 by decide)) (by rw [xent_lng h, upL_self]) (fun b hb => xent_of rfl rfl (upL_row hb))
/-- the words that all methods may use -/
def LW : List Cond := lw_tbl.filter goodWord
theorem LW_good {w : Cond} (h : w ∈ LW) : goodWord w = true := (List.mem_filter.mp h).2
theorem LW_in {w : Cond} (h : w ∈ LW) : w ∈ lw_tbl := (List.mem_filter.mp h).1
theorem LW_of {w : Cond} (i : Nat) (h : lw_tbl[i]? = some w) (hg : goodWord w = true) : w ∈ LW := List.mem_filter.mpr ⟨List.mem_of_getElem? h, hg⟩
def xnw : Cond → Bool
  | .fieldLinkNest _ _ _ _ _ _ => true
  | .methodLinkNest _ _ _ _ => true
  | _ => false
/-- the words on nest mates -/
def NW : List Cond := lw_tbl.filter xnw
theorem NW_of {w : Cond} (i : Nat) (h : lw_tbl[i]? = some w) (hg : xnw w = true) : w ∈ NW := List.mem_filter.mpr ⟨List.mem_of_getElem? h, hg⟩
/-- locals -/
def xLs (ad : Nat → Nat) (nL : Nat) (ls : List xV) (lr : Array Slot) : Prop := lr.size = nL ∧ lv_wf lr ∧ ∀ (i : Nat) (v : xV), ls[i]? = some v → xU v = false → lr[i]? = some (.val (xc ad v))
def xll (ad : Nat → Nat) (nL : Nat) (ls : List xV) : List (Nat × Value) := (List.range nL).filterMap (fun i => match ls[i]? with
  | some v => if xU v = true then none else some (i, xc ad v)
  | none => none)
theorem xll_mem {ad : Nat → Nat} {nL : Nat} {ls : List xV} {q : Nat × Value} : q ∈ xll ad nL ls ↔ q.1 < nL ∧ ∃ v, ls[q.1]? = some v ∧ xU v = false ∧ q.2 = xc ad v := by
  unfold xll
  rw [List.mem_filterMap]
  constructor
  · rintro ⟨i, hi, he⟩
    rw [List.mem_range] at hi
    cases hv : ls[i]? with
    | none => rw [hv] at he; cases he
    | some v =>
      rw [hv] at he
      cases hu : xU v with
      | true => simp [hu] at he
      | false =>
        simp only [hu, Bool.false_eq_true, if_false, Option.some.injEq] at he
        subst he
        exact ⟨hi, v, hv, hu, rfl⟩
  · rintro ⟨hi, v, hv, hu, he⟩
    refine ⟨q.1, List.mem_range.mpr hi, ?_⟩
    rw [hv]
    simp only [hu, Bool.false_eq_true, if_false, ← he]
theorem xLs.has {ad : Nat → Nat} {nL : Nat} {ls : List xV} {lr : Array Slot} (h : xLs ad nL ls lr) : lv_has lr nL (xll ad nL ls) := by
  refine ⟨h.1, h.2.1, fun q hq => ?_⟩
  obtain ⟨-, v, h1, h2, h3⟩ := xll_mem.mp hq
  rw [h3]
  exact h.2.2 _ _ h1 h2
/-- a store -/
def stl (ls : List xV) : Nat → xV → List xV
  | 0, v => ls.set 0 v
  | j + 1, v => (ls.set j (xn2 (ls.getD j vU))).set (j + 1) v
def stl2 (ls : List xV) (i : Nat) (v : xV) : List xV := (stl ls i v).set (i + 1) vU
theorem stl_at {ls : List xV} {i j : Nat} {v w : xV} (h : (stl ls i v)[j]? = some w) (hw : xU w = false) : (j = i ∧ w = v) ∨ (j ≠ i ∧ ls[j]? = some w ∧ (j + 1 = i → xcat w = 1)) := by
  cases i with
  | zero =>
    unfold stl at h
    rw [List.getElem?_set] at h
    by_cases hj : 0 = j
    · rw [if_pos hj] at h
      split at h
      · exact Or.inl ⟨hj.symm, (Option.some.inj h).symm⟩
      · cases h
    · rw [if_neg hj] at h
      exact Or.inr ⟨fun z => hj z.symm, h, fun z => by omega⟩
  | succ i =>
    unfold stl at h
    rw [List.getElem?_set] at h
    by_cases hj : i + 1 = j
    · rw [if_pos hj] at h
      split at h
      · exact Or.inl ⟨hj.symm, (Option.some.inj h).symm⟩
      · cases h
    · rw [if_neg hj, List.getElem?_set] at h
      by_cases hk : i = j
      · subst hk
        rw [if_pos rfl] at h
        split at h
        · rename_i hl
          obtain ⟨e, c⟩ := xn2_of (Option.some.inj h) hw
          have he : ls[i]? = some (ls.getD i vU) := by simp [List.getElem?_eq_getElem hl]
          rw [e] at he c
          exact Or.inr ⟨fun z => hj z.symm, he, fun _ => c⟩
        · cases h
      · rw [if_neg hk] at h
        exact Or.inr ⟨fun z => hj z.symm, h, fun z => by omega⟩
theorem xLs.st {ad : Nat → Nat} {nL : Nat} {ls : List xV} {lr' : Array Slot} {i : Nat} {v : xV} (hi : i < nL) (h2 : lv_has lr' nL ((i, xc ad v) :: (xll ad nL ls).filter (fun q => !(q.1 == i) && !(q.1 + 1 == i && q.2.category == 2)))) (hlen : ls.length ≤ nL) : xLs ad nL (stl ls i v) lr' := by
  refine ⟨h2.1, h2.2.1, fun j w hj hw => ?_⟩
  rcases stl_at hj hw with ⟨rfl, rfl⟩ | ⟨h3, h4, h5⟩
  · exact h2.2.2 _ List.mem_cons_self
  · have hjl : j < ls.length := (List.getElem?_eq_some_iff.mp h4).1
    refine h2.2.2 (j, xc ad w) (List.mem_cons_of_mem _ (List.mem_filter.mpr ⟨xll_mem.mpr ⟨by show j < nL; omega, w, h4, hw, rfl⟩, ?_⟩))
    have e1 : (j == i) = false := by simpa using h3
    have e2 : (j + 1 == i && (xc ad w).category == 2) = false := by
      by_cases z : j + 1 = i
      · rw [xc_cat, h5 z]; simp
      · simp [z]
    simp only [e1, e2, Bool.not_false, Bool.and_self]
theorem xLs.st2 {ad : Nat → Nat} {nL : Nat} {ls : List xV} {lr' : Array Slot} {i : Nat} {v : xV} (hi : i + 1 < nL) (h2 : lv_has lr' nL ((i, xc ad v) :: (xll ad nL ls).filter (fun q => !(q.1 == i) && (!(q.1 == i + 1) && !(q.1 + 1 == i && q.2.category == 2))))) (hlen : ls.length ≤ nL) : xLs ad nL (stl2 ls i v) lr' := by
  refine ⟨h2.1, h2.2.1, fun j w hj hw => ?_⟩
  unfold stl2 at hj
  rw [List.getElem?_set] at hj
  by_cases hji : i + 1 = j
  · rw [if_pos hji] at hj
    split at hj
    · cases hj; cases hw
    · cases hj
  rw [if_neg hji] at hj
  rcases stl_at hj hw with ⟨rfl, rfl⟩ | ⟨h3, h4, h5⟩
  · exact h2.2.2 _ List.mem_cons_self
  · have hjl : j < ls.length := (List.getElem?_eq_some_iff.mp h4).1
    refine h2.2.2 (j, xc ad w) (List.mem_cons_of_mem _ (List.mem_filter.mpr ⟨xll_mem.mpr ⟨by show j < nL; omega, w, h4, hw, rfl⟩, ?_⟩))
    have e1 : (j == i) = false := by simpa using h3
    have e3 : (j == i + 1) = false := by simpa using fun z => hji (Eq.symm z)
    have e2 : (j + 1 == i && (xc ad w).category == 2) = false := by
      by_cases z : j + 1 = i
      · rw [xc_cat, h5 z]; simp
      · simp [z]
    simp only [e1, e2, e3, Bool.not_false, Bool.and_self]
theorem stl_len (ls : List xV) (i : Nat) (v : xV) : (stl ls i v).length = ls.length := by cases i <;> simp [stl]
theorem stl2_len (ls : List xV) (i : Nat) (v : xV) : (stl2 ls i v).length = ls.length := by simp [stl2, stl_len]
/-- fewer locals known -/
theorem xLs.le {ad : Nat → Nat} {nL : Nat} {ls ls' : List xV} {lr : Array Slot} (h : xLs ad nL ls lr) (hl : ∀ (i : Nat) (v : xV), ls'[i]? = some v → xU v = false → ls[i]? = some v) : xLs ad nL ls' lr :=
  ⟨h.1, h.2.1, fun i v hv hu => h.2.2 i v (hl i v hv hu) hu⟩
/-- the texts, where they stand -/
def xsL : List (String × Nat × String × Nat) := []
/-- what is known of the machine in the state U -/
def xKn (E : xE) (U : State) : Prop := va_K E.1 vwCl (xTy E) U ∧ (∀ w ∈ NW, va_Nw w U) ∧ (∀ i j, i < 80 → j < 80 → E.2.2.1 i = E.2.2.1 j → i = j) ∧ vx_Zq Bundle.tN "UNASSIGNED_STACK" Bundle.steD (xA E) U U.heap ∧ vx_Zq Bundle.tN "SUPPRESSED_SENTINEL" Bundle.listD (xA E) U U.heap
abbrev xY : Type := Program × (Env × (State × (MethodId × (Array Value × (List Frame × (Method × (Code × (State → Prop))))))))
abbrev yp (Y : xY) := Y.1
abbrev ye (Y : xY) := Y.2.1
abbrev ys (Y : xY) := Y.2.2.1
abbrev ym (Y : xY) := Y.2.2.2.1
abbrev ya (Y : xY) := Y.2.2.2.2.1
abbrev yb (Y : xY) := Y.2.2.2.2.2.1
abbrev yM (Y : xY) := Y.2.2.2.2.2.2.1
abbrev yc (Y : xY) := Y.2.2.2.2.2.2.2.1
abbrev yQ (Y : xY) := Y.2.2.2.2.2.2.2.2
/-- a walk: from here the machine comes to an end with yQ Y; k cells with n slots are made so far -/
def WP (l : Launch) (E : xE) (R : Room) (A : Nat → Prop) (Y : xY) (k n pc : Nat) (ls st : List xV) (M : xM) : Prop :=
  ∀ (H : Heap) (locs : List Loc) (lr : Array Slot), va_P E.1 vwCl (xws E M) H → va_S A (ys Y).heap H locs → xLs E.2.2.1 (yc Y).maxLocals ls lr → ls.length ≤ (yc Y).maxLocals →
    W (yp Y) l (ye Y) R (ys Y) (ym Y) (ya Y) (yb Y) (yM Y) (yc Y) H locs k n (yQ Y) (F0 (ym Y) pc lr (st.map (xc E.2.2.1)))
/-- what holds of the method that is walked -/
def xFix (E : xE) (A : Nat → Prop) (Y : xY) (cc : ByteArray) (own : String) (nL : Nat) : Prop :=
  (yp Y).tables.exec = Jvm.exec ∧ (yc Y).code = cc ∧ (yc Y).maxLocals = nL ∧ (ys Y).vm.findClass own = some (ym Y).cls ∧ (∀ w ∈ LW, w.before (ya Y) (ys Y) = true) ∧ xKn E (ys Y) ∧ (∀ a, a < 80 → A (E.2.2.1 a)) ∧ (∀ q, q < (ys Y).heap.size → A q → xA E q) ∧ (yM Y).locks = false
theorem xD {E : xE} {A : Nat → Prop} {Y : xY} {cc : ByteArray} {own : String} {nL : Nat} (F : xFix E A Y cc own nL) (M : xM) : va_D A (xws E M) := by
  obtain ⟨-, -, -, -, -, hk, hA, -, -⟩ := F
  refine ⟨fun i j p q hi hj e => ?_, fun i q hi => ?_⟩
  · have h1 : i < 80 := by have := (List.getElem?_eq_some_iff.mp hi).1; simpa [xws] using this
    have h2 : j < 80 := by have := (List.getElem?_eq_some_iff.mp hj).1; simpa [xws] using this
    rw [xws_at E M h1] at hi
    rw [xws_at E M h2] at hj
    cases hi; cases hj
    exact hk.2.2.1 i j h1 h2 e
  · have h1 : i < 80 := by have := (List.getElem?_eq_some_iff.mp hi).1; simpa [xws] using this
    rw [xws_at E M h1] at hi
    cases hi
    exact hA i h1
section XR
variable {l : Launch} {E : xE} {R : Room} {A : Nat → Prop} {Y : xY} {cc : ByteArray} {own : String} {nL : Nat} {k n pc : Nat} {ls st : List xV} {M : xM}
theorem x_iadd (F : xFix E A Y cc own nL) {x y : Int32} (d : decode cc pc = .ok (.iadd, 1)) (g : WP l E R A Y k n (pc + 1) ls (vI (x + y) :: st) M) : WP l E R A Y k n pc ls (vI y :: vI x :: st) M := fun H locs lr hP hS hl hn => lv_iadd F.1 F.2.1 d (g H locs lr hP hS hl hn)
theorem x_isub (F : xFix E A Y cc own nL) {x y : Int32} (d : decode cc pc = .ok (.isub, 1)) (g : WP l E R A Y k n (pc + 1) ls (vI (x - y) :: st) M) : WP l E R A Y k n pc ls (vI y :: vI x :: st) M := fun H locs lr hP hS hl hn => lv_isub F.1 F.2.1 d (g H locs lr hP hS hl hn)
theorem x_imul (F : xFix E A Y cc own nL) {x y : Int32} (d : decode cc pc = .ok (.imul, 1)) (g : WP l E R A Y k n (pc + 1) ls (vI (x * y) :: st) M) : WP l E R A Y k n pc ls (vI y :: vI x :: st) M := fun H locs lr hP hS hl hn => lv_imul F.1 F.2.1 d (g H locs lr hP hS hl hn)
theorem x_iand (F : xFix E A Y cc own nL) {x y : Int32} (d : decode cc pc = .ok (.iand, 1)) (g : WP l E R A Y k n (pc + 1) ls (vI (x &&& y) :: st) M) : WP l E R A Y k n pc ls (vI y :: vI x :: st) M := fun H locs lr hP hS hl hn => lv_iand F.1 F.2.1 d (g H locs lr hP hS hl hn)
theorem x_ior (F : xFix E A Y cc own nL) {x y : Int32} (d : decode cc pc = .ok (.ior, 1)) (g : WP l E R A Y k n (pc + 1) ls (vI (x ||| y) :: st) M) : WP l E R A Y k n pc ls (vI y :: vI x :: st) M := fun H locs lr hP hS hl hn => lv_ior F.1 F.2.1 d (g H locs lr hP hS hl hn)
theorem x_ixor (F : xFix E A Y cc own nL) {x y : Int32} (d : decode cc pc = .ok (.ixor, 1)) (g : WP l E R A Y k n (pc + 1) ls (vI (x ^^^ y) :: st) M) : WP l E R A Y k n pc ls (vI y :: vI x :: st) M := fun H locs lr hP hS hl hn => lv_ixor F.1 F.2.1 d (g H locs lr hP hS hl hn)
theorem x_idiv (F : xFix E A Y cc own nL) {x y : Int32} (d : decode cc pc = .ok (.idiv, 1)) (hne : ¬ y = 0) (g : WP l E R A Y k n (pc + 1) ls (vI (x / y) :: st) M) : WP l E R A Y k n pc ls (vI y :: vI x :: st) M := fun H locs lr hP hS hl hn => lv_idiv F.1 F.2.1 d hne (g H locs lr hP hS hl hn)
theorem x_irem (F : xFix E A Y cc own nL) {x y : Int32} (d : decode cc pc = .ok (.irem, 1)) (hne : ¬ y = 0) (g : WP l E R A Y k n (pc + 1) ls (vI (x - x / y * y) :: st) M) : WP l E R A Y k n pc ls (vI y :: vI x :: st) M := fun H locs lr hP hS hl hn => lv_irem F.1 F.2.1 d hne (g H locs lr hP hS hl hn)
theorem x_ineg (F : xFix E A Y cc own nL) {x : Int32} (d : decode cc pc = .ok (.ineg, 1)) (g : WP l E R A Y k n (pc + 1) ls (vI (-x) :: st) M) : WP l E R A Y k n pc ls (vI x :: st) M := fun H locs lr hP hS hl hn => lv_ineg F.1 F.2.1 d (g H locs lr hP hS hl hn)
theorem x_ladd (F : xFix E A Y cc own nL) {x y : Int64} (d : decode cc pc = .ok (.ladd, 1)) (g : WP l E R A Y k n (pc + 1) ls (vL (x + y) :: st) M) : WP l E R A Y k n pc ls (vL y :: vL x :: st) M := fun H locs lr hP hS hl hn => lv_ladd F.1 F.2.1 d (g H locs lr hP hS hl hn)
theorem x_lsub (F : xFix E A Y cc own nL) {x y : Int64} (d : decode cc pc = .ok (.lsub, 1)) (g : WP l E R A Y k n (pc + 1) ls (vL (x - y) :: st) M) : WP l E R A Y k n pc ls (vL y :: vL x :: st) M := fun H locs lr hP hS hl hn => lv_lsub F.1 F.2.1 d (g H locs lr hP hS hl hn)
theorem x_lmul (F : xFix E A Y cc own nL) {x y : Int64} (d : decode cc pc = .ok (.lmul, 1)) (g : WP l E R A Y k n (pc + 1) ls (vL (x * y) :: st) M) : WP l E R A Y k n pc ls (vL y :: vL x :: st) M := fun H locs lr hP hS hl hn => lv_lmul F.1 F.2.1 d (g H locs lr hP hS hl hn)
theorem x_iconst (F : xFix E A Y cc own nL) {i : Int} {v : Int32} (d : decode cc pc = .ok (.iconst i, 1)) (hv : Int32.ofInt i = v) (g : WP l E R A Y k n (pc + 1) ls (vI v :: st) M) : WP l E R A Y k n pc ls (st) M := fun H locs lr hP hS hl hn => lv_iconst F.1 F.2.1 d hv (g H locs lr hP hS hl hn)
theorem x_bipush (F : xFix E A Y cc own nL) {i : Int} {v : Int32} (d : decode cc pc = .ok (.bipush i, 2)) (hv : (Int8.ofInt i).toInt32 = v) (g : WP l E R A Y k n (pc + 2) ls (vI v :: st) M) : WP l E R A Y k n pc ls (st) M := fun H locs lr hP hS hl hn => lv_bipush F.1 F.2.1 d hv (g H locs lr hP hS hl hn)
theorem x_sipush (F : xFix E A Y cc own nL) {i : Int} {v : Int32} (d : decode cc pc = .ok (.sipush i, 3)) (hv : (Int16.ofInt i).toInt32 = v) (g : WP l E R A Y k n (pc + 3) ls (vI v :: st) M) : WP l E R A Y k n pc ls (st) M := fun H locs lr hP hS hl hn => lv_sipush F.1 F.2.1 d hv (g H locs lr hP hS hl hn)
theorem x_lconst (F : xFix E A Y cc own nL) {i : Fin 2} {v : Int64} (d : decode cc pc = .ok (.lconst i, 1)) (hv : Int64.ofNat (i : Nat) = v) (g : WP l E R A Y k n (pc + 1) ls (vL v :: st) M) : WP l E R A Y k n pc ls (st) M := fun H locs lr hP hS hl hn => lv_lconst F.1 F.2.1 d hv (g H locs lr hP hS hl hn)
theorem x_i2l (F : xFix E A Y cc own nL) {x : Int32} (d : decode cc pc = .ok (.i2l, 1)) (g : WP l E R A Y k n (pc + 1) ls (vL x.toInt64 :: st) M) : WP l E R A Y k n pc ls (vI x :: st) M := fun H locs lr hP hS hl hn => lv_i2l F.1 F.2.1 d rfl (g H locs lr hP hS hl hn)
theorem x_i2c (F : xFix E A Y cc own nL) {x : Int32} (d : decode cc pc = .ok (.i2c, 1)) (g : WP l E R A Y k n (pc + 1) ls (vI ((x.toUInt32 % 65536).toInt32) :: st) M) : WP l E R A Y k n pc ls (vI x :: st) M := fun H locs lr hP hS hl hn => lv_i2c F.1 F.2.1 d rfl (g H locs lr hP hS hl hn)
theorem x_null (F : xFix E A Y cc own nL) (d : decode cc pc = .ok (.aconst_null, 1)) (g : WP l E R A Y k n (pc + 1) ls (vR none :: st) M) : WP l E R A Y k n pc ls (st) M := fun H locs lr hP hS hl hn => lv_null F.1 F.2.1 d (g H locs lr hP hS hl hn)
theorem x_pop (F : xFix E A Y cc own nL) {v : xV} (d : decode cc pc = .ok (.pop, 1)) (hc : xcat v = 1) (g : WP l E R A Y k n (pc + 1) ls (st) M) : WP l E R A Y k n pc ls (v :: st) M := fun H locs lr hP hS hl hn => lv_pop F.1 F.2.1 d (by rw [xc_cat]; exact hc) (g H locs lr hP hS hl hn)
theorem x_dup (F : xFix E A Y cc own nL) {v : xV} (d : decode cc pc = .ok (.dup, 1)) (hc : xcat v = 1) (g : WP l E R A Y k n (pc + 1) ls (v :: v :: st) M) : WP l E R A Y k n pc ls (v :: st) M := fun H locs lr hP hS hl hn => lv_dup F.1 F.2.1 d (by rw [xc_cat]; exact hc) (g H locs lr hP hS hl hn)
theorem x_dup_x1 (F : xFix E A Y cc own nL) {v u : xV} (d : decode cc pc = .ok (.dup_x1, 1)) (hc : xcat v = 1) (hu : xcat u = 1) (g : WP l E R A Y k n (pc + 1) ls (v :: u :: v :: st) M) : WP l E R A Y k n pc ls (v :: u :: st) M := fun H locs lr hP hS hl hn => lv_dup_x1 F.1 F.2.1 d (by rw [xc_cat]; exact hc) (by rw [xc_cat]; exact hu) (g H locs lr hP hS hl hn)
theorem x_dup2 (F : xFix E A Y cc own nL) {v u : xV} (d : decode cc pc = .ok (.dup2, 1)) (hc : xcat v = 1) (hu : xcat u = 1) (g : WP l E R A Y k n (pc + 1) ls (v :: u :: v :: u :: st) M) : WP l E R A Y k n pc ls (v :: u :: st) M := fun H locs lr hP hS hl hn => lv_dup2_11 F.1 F.2.1 d (by rw [xc_cat]; exact hc) (by rw [xc_cat]; exact hu) (g H locs lr hP hS hl hn)
theorem x_iload_n (F : xFix E A Y cc own nL) {i : Fin 4} {x : Int32} (d : decode cc pc = .ok (.iload_n i, 1)) (hv : ls[(i : Nat)]? = some (vI x)) (g : WP l E R A Y k n (pc + 1) ls (vI x :: st) M) : WP l E R A Y k n pc ls st M := fun H locs lr hP hS hl hn => lv_iload_n F.1 F.2.1 d rfl (hl.2.2 _ _ hv rfl) (g H locs lr hP hS hl hn)
theorem x_iload (F : xFix E A Y cc own nL) {i : Nat} {x : Int32} (d : decode cc pc = .ok (.iload i, 2)) (hv : ls[i]? = some (vI x)) (g : WP l E R A Y k n (pc + 2) ls (vI x :: st) M) : WP l E R A Y k n pc ls st M := fun H locs lr hP hS hl hn => lv_iload F.1 F.2.1 d (hl.2.2 _ _ hv rfl) (g H locs lr hP hS hl hn)
theorem x_lload_n (F : xFix E A Y cc own nL) {i : Fin 4} {x : Int64} (d : decode cc pc = .ok (.lload_n i, 1)) (hv : ls[(i : Nat)]? = some (vL x)) (g : WP l E R A Y k n (pc + 1) ls (vL x :: st) M) : WP l E R A Y k n pc ls st M := fun H locs lr hP hS hl hn => lv_lload_n F.1 F.2.1 d rfl (hl.2.2 _ _ hv rfl) (g H locs lr hP hS hl hn)
theorem x_lload (F : xFix E A Y cc own nL) {i : Nat} {x : Int64} (d : decode cc pc = .ok (.lload i, 2)) (hv : ls[i]? = some (vL x)) (g : WP l E R A Y k n (pc + 2) ls (vL x :: st) M) : WP l E R A Y k n pc ls st M := fun H locs lr hP hS hl hn => lv_lload F.1 F.2.1 d (hl.2.2 _ _ hv rfl) (g H locs lr hP hS hl hn)
theorem x_dload_n (F : xFix E A Y cc own nL) {i : Fin 4} {x : UInt64} (d : decode cc pc = .ok (.dload_n i, 1)) (hv : ls[(i : Nat)]? = some (vD x)) (g : WP l E R A Y k n (pc + 1) ls (vD x :: st) M) : WP l E R A Y k n pc ls st M := fun H locs lr hP hS hl hn => lv_dload_n F.1 F.2.1 d rfl (hl.2.2 _ _ hv rfl) (g H locs lr hP hS hl hn)
theorem x_dload (F : xFix E A Y cc own nL) {i : Nat} {x : UInt64} (d : decode cc pc = .ok (.dload i, 2)) (hv : ls[i]? = some (vD x)) (g : WP l E R A Y k n (pc + 2) ls (vD x :: st) M) : WP l E R A Y k n pc ls st M := fun H locs lr hP hS hl hn => lv_dload F.1 F.2.1 d (hl.2.2 _ _ hv rfl) (g H locs lr hP hS hl hn)
theorem x_aload_n (F : xFix E A Y cc own nL) {i : Fin 4} {r : Option Nat} (d : decode cc pc = .ok (.aload_n i, 1)) (hv : ls[(i : Nat)]? = some (vR r)) (g : WP l E R A Y k n (pc + 1) ls (vR r :: st) M) : WP l E R A Y k n pc ls st M := fun H locs lr hP hS hl hn => by
  cases r with
  | none => exact lv_aload_nN F.1 F.2.1 d rfl (hl.2.2 _ _ hv rfl) (g H locs lr hP hS hl hn)
  | some a => exact lv_aload_n F.1 F.2.1 d rfl (hl.2.2 _ _ hv rfl) (g H locs lr hP hS hl hn)
theorem x_aload (F : xFix E A Y cc own nL) {i : Nat} {r : Option Nat} (d : decode cc pc = .ok (.aload i, 2)) (hv : ls[i]? = some (vR r)) (g : WP l E R A Y k n (pc + 2) ls (vR r :: st) M) : WP l E R A Y k n pc ls st M := fun H locs lr hP hS hl hn => by
  cases r with
  | none => exact lv_aloadN F.1 F.2.1 d (hl.2.2 _ _ hv rfl) (g H locs lr hP hS hl hn)
  | some a => exact lv_aload F.1 F.2.1 d (hl.2.2 _ _ hv rfl) (g H locs lr hP hS hl hn)
theorem x_aload_nQ (F : xFix E A Y cc own nL) {i : Fin 4} {q : Nat} (d : decode cc pc = .ok (.aload_n i, 1)) (hv : ls[(i : Nat)]? = some (vQ q)) (g : WP l E R A Y k n (pc + 1) ls (vQ q :: st) M) : WP l E R A Y k n pc ls st M := fun H locs lr hP hS hl hn => lv_aload_n F.1 F.2.1 d rfl (hl.2.2 _ _ hv rfl) (g H locs lr hP hS hl hn)
theorem x_aloadQ (F : xFix E A Y cc own nL) {i : Nat} {q : Nat} (d : decode cc pc = .ok (.aload i, 2)) (hv : ls[i]? = some (vQ q)) (g : WP l E R A Y k n (pc + 2) ls (vQ q :: st) M) : WP l E R A Y k n pc ls st M := fun H locs lr hP hS hl hn => lv_aload F.1 F.2.1 d (hl.2.2 _ _ hv rfl) (g H locs lr hP hS hl hn)
theorem x_istore_n (F : xFix E A Y cc own nL) {i : Fin 4} {x : Int32} (d : decode cc pc = .ok (.istore_n i, 1)) (hi : (i : Nat) < nL) (g : WP l E R A Y k n (pc + 1) (stl ls (i : Nat) (vI x)) st M) : WP l E R A Y k n pc ls (vI x :: st) M := fun H locs lr hP hS hl hn => by
  have hi' := hi
  rw [← F.2.2.1] at hi'
  exact lv_istore_n F.1 F.2.1 d rfl hl.has hi' rfl (fun ls' h' => g H locs ls' hP hS (xLs.st hi' h' hn) (by rw [stl_len]; exact hn))
theorem x_istore (F : xFix E A Y cc own nL) {i : Nat} {x : Int32} (d : decode cc pc = .ok (.istore i, 2)) (hi : i < nL) (g : WP l E R A Y k n (pc + 2) (stl ls i (vI x)) st M) : WP l E R A Y k n pc ls (vI x :: st) M := fun H locs lr hP hS hl hn => by
  have hi' := hi
  rw [← F.2.2.1] at hi'
  exact lv_istore F.1 F.2.1 d hl.has hi' rfl (fun ls' h' => g H locs ls' hP hS (xLs.st hi' h' hn) (by rw [stl_len]; exact hn))
theorem x_lstore_n (F : xFix E A Y cc own nL) {i : Fin 4} {x : Int64} (d : decode cc pc = .ok (.lstore_n i, 1)) (hi : (i : Nat) + 1 < nL) (g : WP l E R A Y k n (pc + 1) (stl2 ls (i : Nat) (vL x)) st M) : WP l E R A Y k n pc ls (vL x :: st) M := fun H locs lr hP hS hl hn => by
  have hi' := hi
  rw [← F.2.2.1] at hi'
  exact lv_lstore_n F.1 F.2.1 d rfl hl.has hi' rfl (fun ls' h' => g H locs ls' hP hS (xLs.st2 hi' h' hn) (by rw [stl2_len]; exact hn))
theorem x_lstore (F : xFix E A Y cc own nL) {i : Nat} {x : Int64} (d : decode cc pc = .ok (.lstore i, 2)) (hi : i + 1 < nL) (g : WP l E R A Y k n (pc + 2) (stl2 ls i (vL x)) st M) : WP l E R A Y k n pc ls (vL x :: st) M := fun H locs lr hP hS hl hn => by
  have hi' := hi
  rw [← F.2.2.1] at hi'
  exact lv_lstore F.1 F.2.1 d hl.has hi' rfl (fun ls' h' => g H locs ls' hP hS (xLs.st2 hi' h' hn) (by rw [stl2_len]; exact hn))
theorem x_dstore_n (F : xFix E A Y cc own nL) {i : Fin 4} {x : UInt64} (d : decode cc pc = .ok (.dstore_n i, 1)) (hi : (i : Nat) + 1 < nL) (g : WP l E R A Y k n (pc + 1) (stl2 ls (i : Nat) (vD x)) st M) : WP l E R A Y k n pc ls (vD x :: st) M := fun H locs lr hP hS hl hn => by
  have hi' := hi
  rw [← F.2.2.1] at hi'
  exact lv_dstore_n F.1 F.2.1 d rfl hl.has hi' rfl (fun ls' h' => g H locs ls' hP hS (xLs.st2 hi' h' hn) (by rw [stl2_len]; exact hn))
theorem x_dstore (F : xFix E A Y cc own nL) {i : Nat} {x : UInt64} (d : decode cc pc = .ok (.dstore i, 2)) (hi : i + 1 < nL) (g : WP l E R A Y k n (pc + 2) (stl2 ls i (vD x)) st M) : WP l E R A Y k n pc ls (vD x :: st) M := fun H locs lr hP hS hl hn => by
  have hi' := hi
  rw [← F.2.2.1] at hi'
  exact lv_dstore F.1 F.2.1 d hl.has hi' rfl (fun ls' h' => g H locs ls' hP hS (xLs.st2 hi' h' hn) (by rw [stl2_len]; exact hn))
theorem x_astore_nQ (F : xFix E A Y cc own nL) {i : Fin 4} {x : Nat} (d : decode cc pc = .ok (.astore_n i, 1)) (hi : (i : Nat) < nL) (g : WP l E R A Y k n (pc + 1) (stl ls (i : Nat) (vQ x)) st M) : WP l E R A Y k n pc ls (vQ x :: st) M := fun H locs lr hP hS hl hn => by
  have hi' := hi
  rw [← F.2.2.1] at hi'
  exact lv_astore_n F.1 F.2.1 d rfl hl.has hi' rfl (fun ls' h' => g H locs ls' hP hS (xLs.st hi' h' hn) (by rw [stl_len]; exact hn))
theorem x_astoreQ (F : xFix E A Y cc own nL) {i : Nat} {x : Nat} (d : decode cc pc = .ok (.astore i, 2)) (hi : i < nL) (g : WP l E R A Y k n (pc + 2) (stl ls i (vQ x)) st M) : WP l E R A Y k n pc ls (vQ x :: st) M := fun H locs lr hP hS hl hn => by
  have hi' := hi
  rw [← F.2.2.1] at hi'
  exact lv_astore F.1 F.2.1 d hl.has hi' rfl (fun ls' h' => g H locs ls' hP hS (xLs.st hi' h' hn) (by rw [stl_len]; exact hn))
theorem x_astore_n (F : xFix E A Y cc own nL) {i : Fin 4} {r : Option Nat} (d : decode cc pc = .ok (.astore_n i, 1)) (hi : (i : Nat) < nL) (g : WP l E R A Y k n (pc + 1) (stl ls (i : Nat) (vR r)) st M) : WP l E R A Y k n pc ls (vR r :: st) M := fun H locs lr hP hS hl hn => by
  have hi' := hi
  rw [← F.2.2.1] at hi'
  cases r with
  | none => exact lv_astore_nN F.1 F.2.1 d rfl hl.has hi' rfl (fun ls' h' => g H locs ls' hP hS (xLs.st (v := vR none) hi' h' hn) (by rw [stl_len]; exact hn))
  | some a => exact lv_astore_n F.1 F.2.1 d rfl hl.has hi' rfl (fun ls' h' => g H locs ls' hP hS (xLs.st (v := vR (some a)) hi' h' hn) (by rw [stl_len]; exact hn))
theorem x_astore (F : xFix E A Y cc own nL) {i : Nat} {r : Option Nat} (d : decode cc pc = .ok (.astore i, 2)) (hi : i < nL) (g : WP l E R A Y k n (pc + 2) (stl ls i (vR r)) st M) : WP l E R A Y k n pc ls (vR r :: st) M := fun H locs lr hP hS hl hn => by
  have hi' := hi
  rw [← F.2.2.1] at hi'
  cases r with
  | none => exact lv_astoreN F.1 F.2.1 d hl.has hi' rfl (fun ls' h' => g H locs ls' hP hS (xLs.st (v := vR none) hi' h' hn) (by rw [stl_len]; exact hn))
  | some a => exact lv_astore F.1 F.2.1 d hl.has hi' rfl (fun ls' h' => g H locs ls' hP hS (xLs.st (v := vR (some a)) hi' h' hn) (by rw [stl_len]; exact hn))
theorem x_iinc (F : xFix E A Y cc own nL) {i : Nat} {c : Int} {x v : Int32} (d : decode cc pc = .ok (.iinc i c, 3)) (hv : ls[i]? = some (vI x)) (he : x + Int32.ofInt c = v) (g : WP l E R A Y k n (pc + 3) (stl ls i (vI v)) st M) : WP l E R A Y k n pc ls st M := fun H locs lr hP hS hl hn => by
  have hil : i < ls.length := (List.getElem?_eq_some_iff.mp hv).1
  have hi' : i < (yc Y).maxLocals := by omega
  have hm : (i, Value.int x) ∈ xll E.2.2.1 (yc Y).maxLocals ls := xll_mem.mpr ⟨hi', _, hv, rfl, rfl⟩
  obtain ⟨q, hq⟩ := List.getElem?_of_mem hm
  exact lv_iinc F.1 F.2.1 d hl.has hq he hi' rfl (fun ls' h' => g H locs ls' hP hS (xLs.st (v := vI v) hi' h' hn) (by rw [stl_len]; exact hn))
theorem x_goto (F : xFix E A Y cc own nL) {off : Int} {tgt : Nat} (d : decode cc pc = .ok (.goto off, 3)) (ht : (pc : Int) + off = (tgt : Int)) (g : WP l E R A Y k n tgt ls st M) : WP l E R A Y k n pc ls st M := fun H locs lr hP hS hl hn => lv_goto F.1 F.2.1 d ht (g H locs lr hP hS hl hn)
theorem x_ifnull (F : xFix E A Y cc own nL) {r : Option Nat} {off : Int} {tgt : Nat} (d : decode cc pc = .ok (.ifnull off, 3)) (ht : (pc : Int) + off = (tgt : Int)) (g1 : r = none → WP l E R A Y k n tgt ls st M) (g2 : ∀ a, r = some a → WP l E R A Y k n (pc + 3) ls st M) : WP l E R A Y k n pc ls (vR r :: st) M := fun H locs lr hP hS hl hn => by
  cases r with
  | none => exact lv_ifnullN F.1 F.2.1 d ht (g1 rfl H locs lr hP hS hl hn)
  | some a => exact lv_ifnull F.1 F.2.1 d (g2 a rfl H locs lr hP hS hl hn)
theorem x_ifnonnull (F : xFix E A Y cc own nL) {r : Option Nat} {off : Int} {tgt : Nat} (d : decode cc pc = .ok (.ifnonnull off, 3)) (ht : (pc : Int) + off = (tgt : Int)) (g1 : ∀ a, r = some a → WP l E R A Y k n tgt ls st M) (g2 : r = none → WP l E R A Y k n (pc + 3) ls st M) : WP l E R A Y k n pc ls (vR r :: st) M := fun H locs lr hP hS hl hn => by
  cases r with
  | none => exact lv_ifnonnullN F.1 F.2.1 d (g2 rfl H locs lr hP hS hl hn)
  | some a => exact lv_ifnonnull F.1 F.2.1 d ht (g1 a rfl H locs lr hP hS hl hn)
theorem x_icmp_eq (F : xFix E A Y cc own nL) {x y : Int32} {off : Int} {tgt : Nat} (d : decode cc pc = .ok (.if_icmp .eq off, 3)) (ht : (pc : Int) + off = (tgt : Int)) (g1 : x = y → WP l E R A Y k n tgt ls st M) (g2 : ¬ x = y → WP l E R A Y k n (pc + 3) ls st M) : WP l E R A Y k n pc ls (vI y :: vI x :: st) M := fun H locs lr hP hS hl hn => lv_icmp_eq F.1 F.2.1 d ht (fun q => g1 q H locs lr hP hS hl hn) (fun q => g2 q H locs lr hP hS hl hn)
theorem x_if_eq (F : xFix E A Y cc own nL) {x : Int32} {off : Int} {tgt : Nat} (d : decode cc pc = .ok (.ifCond .eq off, 3)) (ht : (pc : Int) + off = (tgt : Int)) (g1 : x = 0 → WP l E R A Y k n tgt ls st M) (g2 : ¬ x = 0 → WP l E R A Y k n (pc + 3) ls st M) : WP l E R A Y k n pc ls (vI x :: st) M := fun H locs lr hP hS hl hn => lv_if_eq F.1 F.2.1 d ht (fun q => g1 q H locs lr hP hS hl hn) (fun q => g2 q H locs lr hP hS hl hn)
theorem x_icmp_ne (F : xFix E A Y cc own nL) {x y : Int32} {off : Int} {tgt : Nat} (d : decode cc pc = .ok (.if_icmp .ne off, 3)) (ht : (pc : Int) + off = (tgt : Int)) (g1 : ¬ x = y → WP l E R A Y k n tgt ls st M) (g2 : x = y → WP l E R A Y k n (pc + 3) ls st M) : WP l E R A Y k n pc ls (vI y :: vI x :: st) M := fun H locs lr hP hS hl hn => lv_icmp_ne F.1 F.2.1 d ht (fun q => g1 q H locs lr hP hS hl hn) (fun q => g2 q H locs lr hP hS hl hn)
theorem x_if_ne (F : xFix E A Y cc own nL) {x : Int32} {off : Int} {tgt : Nat} (d : decode cc pc = .ok (.ifCond .ne off, 3)) (ht : (pc : Int) + off = (tgt : Int)) (g1 : ¬ x = 0 → WP l E R A Y k n tgt ls st M) (g2 : x = 0 → WP l E R A Y k n (pc + 3) ls st M) : WP l E R A Y k n pc ls (vI x :: st) M := fun H locs lr hP hS hl hn => lv_if_ne F.1 F.2.1 d ht (fun q => g1 q H locs lr hP hS hl hn) (fun q => g2 q H locs lr hP hS hl hn)
theorem x_icmp_lt (F : xFix E A Y cc own nL) {x y : Int32} {off : Int} {tgt : Nat} (d : decode cc pc = .ok (.if_icmp .lt off, 3)) (ht : (pc : Int) + off = (tgt : Int)) (g1 : x < y → WP l E R A Y k n tgt ls st M) (g2 : ¬ x < y → WP l E R A Y k n (pc + 3) ls st M) : WP l E R A Y k n pc ls (vI y :: vI x :: st) M := fun H locs lr hP hS hl hn => lv_icmp_lt F.1 F.2.1 d ht (fun q => g1 q H locs lr hP hS hl hn) (fun q => g2 q H locs lr hP hS hl hn)
theorem x_if_lt (F : xFix E A Y cc own nL) {x : Int32} {off : Int} {tgt : Nat} (d : decode cc pc = .ok (.ifCond .lt off, 3)) (ht : (pc : Int) + off = (tgt : Int)) (g1 : x < 0 → WP l E R A Y k n tgt ls st M) (g2 : ¬ x < 0 → WP l E R A Y k n (pc + 3) ls st M) : WP l E R A Y k n pc ls (vI x :: st) M := fun H locs lr hP hS hl hn => lv_if_lt F.1 F.2.1 d ht (fun q => g1 q H locs lr hP hS hl hn) (fun q => g2 q H locs lr hP hS hl hn)
theorem x_icmp_ge (F : xFix E A Y cc own nL) {x y : Int32} {off : Int} {tgt : Nat} (d : decode cc pc = .ok (.if_icmp .ge off, 3)) (ht : (pc : Int) + off = (tgt : Int)) (g1 : y ≤ x → WP l E R A Y k n tgt ls st M) (g2 : ¬ y ≤ x → WP l E R A Y k n (pc + 3) ls st M) : WP l E R A Y k n pc ls (vI y :: vI x :: st) M := fun H locs lr hP hS hl hn => lv_icmp_ge F.1 F.2.1 d ht (fun q => g1 q H locs lr hP hS hl hn) (fun q => g2 q H locs lr hP hS hl hn)
theorem x_if_ge (F : xFix E A Y cc own nL) {x : Int32} {off : Int} {tgt : Nat} (d : decode cc pc = .ok (.ifCond .ge off, 3)) (ht : (pc : Int) + off = (tgt : Int)) (g1 : 0 ≤ x → WP l E R A Y k n tgt ls st M) (g2 : ¬ 0 ≤ x → WP l E R A Y k n (pc + 3) ls st M) : WP l E R A Y k n pc ls (vI x :: st) M := fun H locs lr hP hS hl hn => lv_if_ge F.1 F.2.1 d ht (fun q => g1 q H locs lr hP hS hl hn) (fun q => g2 q H locs lr hP hS hl hn)
theorem x_icmp_gt (F : xFix E A Y cc own nL) {x y : Int32} {off : Int} {tgt : Nat} (d : decode cc pc = .ok (.if_icmp .gt off, 3)) (ht : (pc : Int) + off = (tgt : Int)) (g1 : y < x → WP l E R A Y k n tgt ls st M) (g2 : ¬ y < x → WP l E R A Y k n (pc + 3) ls st M) : WP l E R A Y k n pc ls (vI y :: vI x :: st) M := fun H locs lr hP hS hl hn => lv_icmp_gt F.1 F.2.1 d ht (fun q => g1 q H locs lr hP hS hl hn) (fun q => g2 q H locs lr hP hS hl hn)
theorem x_if_gt (F : xFix E A Y cc own nL) {x : Int32} {off : Int} {tgt : Nat} (d : decode cc pc = .ok (.ifCond .gt off, 3)) (ht : (pc : Int) + off = (tgt : Int)) (g1 : 0 < x → WP l E R A Y k n tgt ls st M) (g2 : ¬ 0 < x → WP l E R A Y k n (pc + 3) ls st M) : WP l E R A Y k n pc ls (vI x :: st) M := fun H locs lr hP hS hl hn => lv_if_gt F.1 F.2.1 d ht (fun q => g1 q H locs lr hP hS hl hn) (fun q => g2 q H locs lr hP hS hl hn)
theorem x_icmp_le (F : xFix E A Y cc own nL) {x y : Int32} {off : Int} {tgt : Nat} (d : decode cc pc = .ok (.if_icmp .le off, 3)) (ht : (pc : Int) + off = (tgt : Int)) (g1 : x ≤ y → WP l E R A Y k n tgt ls st M) (g2 : ¬ x ≤ y → WP l E R A Y k n (pc + 3) ls st M) : WP l E R A Y k n pc ls (vI y :: vI x :: st) M := fun H locs lr hP hS hl hn => lv_icmp_le F.1 F.2.1 d ht (fun q => g1 q H locs lr hP hS hl hn) (fun q => g2 q H locs lr hP hS hl hn)
theorem x_if_le (F : xFix E A Y cc own nL) {x : Int32} {off : Int} {tgt : Nat} (d : decode cc pc = .ok (.ifCond .le off, 3)) (ht : (pc : Int) + off = (tgt : Int)) (g1 : x ≤ 0 → WP l E R A Y k n tgt ls st M) (g2 : ¬ x ≤ 0 → WP l E R A Y k n (pc + 3) ls st M) : WP l E R A Y k n pc ls (vI x :: st) M := fun H locs lr hP hS hl hn => lv_if_le F.1 F.2.1 d ht (fun q => g1 q H locs lr hP hS hl hn) (fun q => g2 q H locs lr hP hS hl hn)
/-- links that the tables give: a field of a class by an entry of a class's pool; the same over a nest mate's -/
def xFL (own : String) (idx ci j : Nat) : Prop := ∃ (C : String) (T : u_T) (N : Nat), vwCl[ci]? = some (C, T, N) ∧ j < N ∧ (∀ w ∈ u_ws C T N, w ∈ LW) ∧ Cond.fieldLink own idx C (T j).2.1 (T j).2.2.1 ∈ LW ∧ (T j).1 = C
def xFN (own : String) (idx ci j : Nat) : Prop := ∃ (C host : String) (T : u_T) (N : Nat), vwCl[ci]? = some (C, T, N) ∧ j < N ∧ (∀ w ∈ u_ws C T N, w ∈ LW) ∧ Cond.fieldLinkNest own idx C (T j).2.1 (T j).2.2.1 host ∈ NW ∧ (T j).1 = C
theorem xFL.get {idx ci j a N9 : Nat} {v : Value} (h : xFL own idx ci j) (F : xFix E A Y cc own nL) (hk : xk a = (ci, N9)) (hc : ci < 8) (hj : j < N9) (hv : xfv E.2.2.1 M ci a j = v) {H : Heap} {locs : List Loc} {lr : Array Slot} {rest : List Value} (d : decode cc pc = .ok (.getfield idx, 3)) (hP : va_P E.1 vwCl (xws E M) H)
    (g : W (yp Y) l (ye Y) R (ys Y) (ym Y) (ya Y) (yb Y) (yM Y) (yc Y) H locs k n (yQ Y) (F0 (ym Y) (pc + 3) lr (v :: rest))) : W (yp Y) l (ye Y) R (ys Y) (ym Y) (ya Y) (yb Y) (yM Y) (yc Y) H locs k n (yQ Y) (F0 (ym Y) pc lr (.ref (E.2.2.1 a) :: rest)) := by
  obtain ⟨C, T, N, h1, h2, h3, h4, h5⟩ := h
  refine va_get (Ts := LW) (ref := C) F.1 F.2.1 F.2.2.2.2.1 h3 F.2.2.2.1 F.2.2.2.2.2.1.1 hP a (xws_obj E M hk hc) h1 j h2 (F.2.2.2.2.1 _ h4) (fun x hx => by rw [h5] at hx; exact hx) ?_ d g
  simp [hj, hv]
theorem xFN.get {idx ci j a N9 : Nat} {v : Value} (h : xFN own idx ci j) (F : xFix E A Y cc own nL) (hk : xk a = (ci, N9)) (hc : ci < 8) (hj : j < N9) (hv : xfv E.2.2.1 M ci a j = v) {H : Heap} {locs : List Loc} {lr : Array Slot} {rest : List Value} (d : decode cc pc = .ok (.getfield idx, 3)) (hP : va_P E.1 vwCl (xws E M) H)
    (g : W (yp Y) l (ye Y) R (ys Y) (ym Y) (ya Y) (yb Y) (yM Y) (yc Y) H locs k n (yQ Y) (F0 (ym Y) (pc + 3) lr (v :: rest))) : W (yp Y) l (ye Y) R (ys Y) (ym Y) (ya Y) (yb Y) (yM Y) (yc Y) H locs k n (yQ Y) (F0 (ym Y) pc lr (.ref (E.2.2.1 a) :: rest)) := by
  obtain ⟨C, host, T, N, h1, h2, h3, h4, h5⟩ := h
  refine va_getN (Ts := LW) (ref := C) (host := host) F.1 F.2.1 F.2.2.2.2.1 h3 F.2.2.2.1 F.2.2.2.2.2.1.1 hP a (xws_obj E M hk hc) h1 j h2 (va_Nw.use rfl (F.2.2.2.2.2.1.2.1 _ h4)) (fun x hx => by rw [h5] at hx; exact hx) ?_ d g
  simp [hj, hv]
theorem x_geti (F : xFix E A Y cc own nL) {idx ci j a N9 : Nat} (h : xFL own idx ci j) (hk : xk a = (ci, N9)) (d : decode cc pc = .ok (.getfield idx, 3)) (hc : ci < 8) (hj : j < N9) (hf : xft ci j = 0) (g : WP l E R A Y k n (pc + 3) ls (vI (M.1 a j) :: st) M) : WP l E R A Y k n pc ls (vA a :: st) M := fun H locs lr hP hS hl hn => h.get F hk hc hj (v := .int (M.1 a j)) (by unfold xfv; rw [if_pos hf]) d hP (g H locs lr hP hS hl hn)
theorem x_getr (F : xFix E A Y cc own nL) {idx ci j a N9 : Nat} (h : xFL own idx ci j) (hk : xk a = (ci, N9)) (d : decode cc pc = .ok (.getfield idx, 3)) (hc : ci < 8) (hj : j < N9) (hf : xft ci j = 2) (g : WP l E R A Y k n (pc + 3) ls (vR (M.2.1 a j) :: st) M) : WP l E R A Y k n pc ls (vA a :: st) M := fun H locs lr hP hS hl hn => h.get F hk hc hj (v := xrv E.2.2.1 (M.2.1 a j)) (by unfold xfv xgr; rw [hf]; rfl) d hP (g H locs lr hP hS hl hn)
theorem x_getc (F : xFix E A Y cc own nL) {idx ci j a N9 v : Nat} (h : xFL own idx ci j) (hk : xk a = (ci, N9)) (d : decode cc pc = .ok (.getfield idx, 3)) (hc : ci < 8) (hj : j < N9) (hf : xft ci j = 1) (hv : xcr ci a j = v) (g : WP l E R A Y k n (pc + 3) ls (vA v :: st) M) : WP l E R A Y k n pc ls (vA a :: st) M := fun H locs lr hP hS hl hn => h.get F hk hc hj (v := xrv E.2.2.1 (some v)) (by unfold xfv xgr; rw [hf, hv]; rfl) d hP (g H locs lr hP hS hl hn)
theorem x_getl (F : xFix E A Y cc own nL) {idx ci j a N9 : Nat} (h : xFL own idx ci j) (hk : xk a = (ci, N9)) (d : decode cc pc = .ok (.getfield idx, 3)) (hc : ci < 8) (hj : j < N9) (hf : xft ci j = 3) (g : WP l E R A Y k n (pc + 3) ls (vL (M.2.2 a j) :: st) M) : WP l E R A Y k n pc ls (vA a :: st) M := fun H locs lr hP hS hl hn => h.get F hk hc hj (v := .long (M.2.2 a j)) (by unfold xfv; rw [hf]; rfl) d hP (g H locs lr hP hS hl hn)
theorem x_getiN (F : xFix E A Y cc own nL) {idx ci j a N9 : Nat} (h : xFN own idx ci j) (hk : xk a = (ci, N9)) (d : decode cc pc = .ok (.getfield idx, 3)) (hc : ci < 8) (hj : j < N9) (hf : xft ci j = 0) (g : WP l E R A Y k n (pc + 3) ls (vI (M.1 a j) :: st) M) : WP l E R A Y k n pc ls (vA a :: st) M := fun H locs lr hP hS hl hn => h.get F hk hc hj (v := .int (M.1 a j)) (by unfold xfv; rw [if_pos hf]) d hP (g H locs lr hP hS hl hn)
theorem x_getrN (F : xFix E A Y cc own nL) {idx ci j a N9 : Nat} (h : xFN own idx ci j) (hk : xk a = (ci, N9)) (d : decode cc pc = .ok (.getfield idx, 3)) (hc : ci < 8) (hj : j < N9) (hf : xft ci j = 2) (g : WP l E R A Y k n (pc + 3) ls (vR (M.2.1 a j) :: st) M) : WP l E R A Y k n pc ls (vA a :: st) M := fun H locs lr hP hS hl hn => h.get F hk hc hj (v := xrv E.2.2.1 (M.2.1 a j)) (by unfold xfv xgr; rw [hf]; rfl) d hP (g H locs lr hP hS hl hn)
theorem x_getcN (F : xFix E A Y cc own nL) {idx ci j a N9 v : Nat} (h : xFN own idx ci j) (hk : xk a = (ci, N9)) (d : decode cc pc = .ok (.getfield idx, 3)) (hc : ci < 8) (hj : j < N9) (hf : xft ci j = 1) (hv : xcr ci a j = v) (g : WP l E R A Y k n (pc + 3) ls (vA v :: st) M) : WP l E R A Y k n pc ls (vA a :: st) M := fun H locs lr hP hS hl hn => h.get F hk hc hj (v := xrv E.2.2.1 (some v)) (by unfold xfv xgr; rw [hf, hv]; rfl) d hP (g H locs lr hP hS hl hn)
theorem x_getlN (F : xFix E A Y cc own nL) {idx ci j a N9 : Nat} (h : xFN own idx ci j) (hk : xk a = (ci, N9)) (d : decode cc pc = .ok (.getfield idx, 3)) (hc : ci < 8) (hj : j < N9) (hf : xft ci j = 3) (g : WP l E R A Y k n (pc + 3) ls (vL (M.2.2 a j) :: st) M) : WP l E R A Y k n pc ls (vA a :: st) M := fun H locs lr hP hS hl hn => h.get F hk hc hj (v := .long (M.2.2 a j)) (by unfold xfv; rw [hf]; rfl) d hP (g H locs lr hP hS hl hn)
/-- a class's fields, as a write wants them -/
def xCT (ci : Nat) : Prop := ∀ (C : String) (T : u_T) (N : Nat), vwCl[ci]? = some (C, T, N) → (∃ ty : Nat → FieldType, ∀ k, k < N → parseFieldDescriptor (T k).2.2.1 = some (ty k)) ∧ (∀ a, a < N → ∀ b, b < N → a ≠ b → (T a).2.1 ≠ (T b).2.1)
theorem xCT_all : ∀ ci, ci < 8 → xCT ci := by
  intro ci hci C T N h
  match ci, hci, h with
  | 0, _, h => cases h; exact ⟨⟨_, tyX0_ok⟩, nmX0⟩
  | 1, _, h => cases h; exact ⟨⟨_, tyX1_ok⟩, nmX1⟩
  | 2, _, h => cases h; exact ⟨⟨_, tyX2_ok⟩, nmX2⟩
  | 3, _, h => cases h; exact ⟨⟨_, tyX3_ok⟩, nmX3⟩
  | 4, _, h => cases h; exact ⟨⟨_, tyX4_ok⟩, nmX4⟩
  | 5, _, h => cases h; exact ⟨⟨_, tyX5_ok⟩, nmX5⟩
  | 6, _, h => cases h; exact ⟨⟨_, tyX6_ok⟩, nmX6⟩
  | 7, _, h => cases h; exact ⟨⟨_, tyX7_ok⟩, nmX7⟩
/-- a field that is written: not final, its type ty -/
def xFW (ci j : Nat) (ty : FieldType) : Prop := ∀ (C : String) (T : u_T) (N : Nat), vwCl[ci]? = some (C, T, N) → (T j).2.2.2 = false ∧ parseFieldDescriptor (T j).2.2.1 = some ty
theorem xFL.put {idx ci j a N9 : Nat} {v : Value} {ty : FieldType} {M' : xM} (h : xFL own idx ci j) (F : xFix E A Y cc own nL) (hk : xk a = (ci, N9)) (hc : ci < 8) (hj : j < N9) (hw : xFW ci j ty) (hn1 : narrow ty v = v) (hfit : fits ty v = true) (hset : (xws E M).set a (E.2.2.1 a, .inr (ci, ((List.range N9).map (xfv E.2.2.1 M ci a)).set j v)) = xws E M') {H : Heap} {locs : List Loc} {lr : Array Slot} {rest : List Value} (d : decode cc pc = .ok (.putfield idx, 3)) (hP : va_P E.1 vwCl (xws E M) H) (hS : va_S A (ys Y).heap H locs)
    (g : ∀ (H1 : Heap) (locs1 : List Loc), va_P E.1 vwCl (xws E M') H1 → va_S A (ys Y).heap H1 locs1 → W (yp Y) l (ye Y) R (ys Y) (ym Y) (ya Y) (yb Y) (yM Y) (yc Y) H1 locs1 k n (yQ Y) (F0 (ym Y) (pc + 3) lr rest)) : W (yp Y) l (ye Y) R (ys Y) (ym Y) (ya Y) (yb Y) (yM Y) (yc Y) H locs k n (yQ Y) (F0 (ym Y) pc lr (v :: .ref (E.2.2.1 a) :: rest)) := by
  obtain ⟨C, T, N, h1, h2, h3, h4, h5⟩ := h
  obtain ⟨⟨ty0, t1⟩, t2⟩ := xCT_all ci hc C T N h1
  obtain ⟨w1, w2⟩ := hw C T N h1
  refine va_put (Ts := LW) (ref := C) F.1 F.2.1 F.2.2.2.2.1 h3 ty0 t1 t2 F.2.2.2.1 F.2.2.2.2.2.1.1 hP (xD F M) hS a (xws_obj E M hk hc) h1 j h2 (F.2.2.2.2.1 _ h4) (fun x hx => by rw [h5] at hx; exact hx) w1 w2 hn1 hfit (by simpa using hj) d ?_
  intro H1 locs1 hP1 _ hS1
  rw [hset] at hP1
  exact g H1 locs1 hP1 hS1
theorem x_puti (F : xFix E A Y cc own nL) {idx ci j a N9 : Nat} {x : Int32} {ty : FieldType} (h : xFL own idx ci j) (hk : xk a = (ci, N9)) (d : decode cc pc = .ok (.putfield idx, 3)) (hc : ci < 8) (hj : j < N9) (hf : xft ci j = 0) (hw : xFW ci j ty) (hn1 : narrow ty (.int x) = .int x) (hfit : fits ty (.int x) = true) (g : WP l E R A Y k n (pc + 3) ls st (upI M a j x)) : WP l E R A Y k n pc ls (vI x :: vA a :: st) M := fun H locs lr hP hS hl hn => h.put F hk hc hj hw hn1 hfit (xws_putI hk hc hf hj) d hP hS (fun H1 locs1 hP1 hS1 => g H1 locs1 lr hP1 hS1 hl hn)
theorem x_putl (F : xFix E A Y cc own nL) {idx ci j a N9 : Nat} {x : Int64} (h : xFL own idx ci j) (hk : xk a = (ci, N9)) (d : decode cc pc = .ok (.putfield idx, 3)) (hc : ci < 8) (hj : j < N9) (hf : xft ci j = 3) (hw : xFW ci j .long) (g : WP l E R A Y k n (pc + 3) ls st (upL M a j x)) : WP l E R A Y k n pc ls (vL x :: vA a :: st) M := fun H locs lr hP hS hl hn => h.put F hk hc hj hw rfl rfl (xws_putL hk hc hf hj) d hP hS (fun H1 locs1 hP1 hS1 => g H1 locs1 lr hP1 hS1 hl hn)
theorem x_putr (F : xFix E A Y cc own nL) {idx ci j a N9 : Nat} {r : Option Nat} {C9 : String} (h : xFL own idx ci j) (hk : xk a = (ci, N9)) (d : decode cc pc = .ok (.putfield idx, 3)) (hc : ci < 8) (hj : j < N9) (hf : xft ci j = 2) (hw : xFW ci j (.object C9)) (g : WP l E R A Y k n (pc + 3) ls st (upR M a j r)) : WP l E R A Y k n pc ls (vR r :: vA a :: st) M := fun H locs lr hP hS hl hn => h.put F hk hc hj hw (by cases r <;> rfl) (by cases r <;> rfl) (xws_putR hk hc hf hj) d hP hS (fun H1 locs1 hP1 hS1 => g H1 locs1 lr hP1 hS1 hl hn)
theorem xFN.put {idx ci j a N9 : Nat} {v : Value} {ty : FieldType} {M' : xM} (h : xFN own idx ci j) (F : xFix E A Y cc own nL) (hk : xk a = (ci, N9)) (hc : ci < 8) (hj : j < N9) (hw : xFW ci j ty) (hn1 : narrow ty v = v) (hfit : fits ty v = true) (hset : (xws E M).set a (E.2.2.1 a, .inr (ci, ((List.range N9).map (xfv E.2.2.1 M ci a)).set j v)) = xws E M') {H : Heap} {locs : List Loc} {lr : Array Slot} {rest : List Value} (d : decode cc pc = .ok (.putfield idx, 3)) (hP : va_P E.1 vwCl (xws E M) H) (hS : va_S A (ys Y).heap H locs)
    (g : ∀ (H1 : Heap) (locs1 : List Loc), va_P E.1 vwCl (xws E M') H1 → va_S A (ys Y).heap H1 locs1 → W (yp Y) l (ye Y) R (ys Y) (ym Y) (ya Y) (yb Y) (yM Y) (yc Y) H1 locs1 k n (yQ Y) (F0 (ym Y) (pc + 3) lr rest)) : W (yp Y) l (ye Y) R (ys Y) (ym Y) (ya Y) (yb Y) (yM Y) (yc Y) H locs k n (yQ Y) (F0 (ym Y) pc lr (v :: .ref (E.2.2.1 a) :: rest)) := by
  obtain ⟨C, host, T, N, h1, h2, h3, h4, h5⟩ := h
  obtain ⟨⟨ty0, t1⟩, t2⟩ := xCT_all ci hc C T N h1
  obtain ⟨w1, w2⟩ := hw C T N h1
  refine va_putN (Ts := LW) (ref := C) (host := host) F.1 F.2.1 F.2.2.2.2.1 h3 ty0 t1 t2 F.2.2.2.1 F.2.2.2.2.2.1.1 hP (xD F M) hS a (xws_obj E M hk hc) h1 j h2 (va_Nw.use rfl (F.2.2.2.2.2.1.2.1 _ h4)) (fun x hx => by rw [h5] at hx; exact hx) w1 w2 hn1 hfit (by simpa using hj) d ?_
  intro H1 locs1 hP1 _ hS1
  rw [hset] at hP1
  exact g H1 locs1 hP1 hS1
theorem x_putiN (F : xFix E A Y cc own nL) {idx ci j a N9 : Nat} {x : Int32} {ty : FieldType} (h : xFN own idx ci j) (hk : xk a = (ci, N9)) (d : decode cc pc = .ok (.putfield idx, 3)) (hc : ci < 8) (hj : j < N9) (hf : xft ci j = 0) (hw : xFW ci j ty) (hn1 : narrow ty (.int x) = .int x) (hfit : fits ty (.int x) = true) (g : WP l E R A Y k n (pc + 3) ls st (upI M a j x)) : WP l E R A Y k n pc ls (vI x :: vA a :: st) M := fun H locs lr hP hS hl hn => h.put F hk hc hj hw hn1 hfit (xws_putI hk hc hf hj) d hP hS (fun H1 locs1 hP1 hS1 => g H1 locs1 lr hP1 hS1 hl hn)
theorem x_putlN (F : xFix E A Y cc own nL) {idx ci j a N9 : Nat} {x : Int64} (h : xFN own idx ci j) (hk : xk a = (ci, N9)) (d : decode cc pc = .ok (.putfield idx, 3)) (hc : ci < 8) (hj : j < N9) (hf : xft ci j = 3) (hw : xFW ci j .long) (g : WP l E R A Y k n (pc + 3) ls st (upL M a j x)) : WP l E R A Y k n pc ls (vL x :: vA a :: st) M := fun H locs lr hP hS hl hn => h.put F hk hc hj hw rfl rfl (xws_putL hk hc hf hj) d hP hS (fun H1 locs1 hP1 hS1 => g H1 locs1 lr hP1 hS1 hl hn)
theorem x_putrN (F : xFix E A Y cc own nL) {idx ci j a N9 : Nat} {r : Option Nat} {C9 : String} (h : xFN own idx ci j) (hk : xk a = (ci, N9)) (d : decode cc pc = .ok (.putfield idx, 3)) (hc : ci < 8) (hj : j < N9) (hf : xft ci j = 2) (hw : xFW ci j (.object C9)) (g : WP l E R A Y k n (pc + 3) ls st (upR M a j r)) : WP l E R A Y k n pc ls (vR r :: vA a :: st) M := fun H locs lr hP hS hl hn => h.put F hk hc hj hw (by cases r <;> rfl) (by cases r <;> rfl) (xws_putR hk hc hf hj) d hP hS (fun H1 locs1 hP1 hS1 => g H1 locs1 lr hP1 hS1 hl hn)
theorem x_iald (F : xFix E A Y cc own nL) {a N9 : Nat} {i : Int32} (hk : xk a = (8, N9)) (d : decode cc pc = .ok (.iaload, 1)) (hin : vp_in i N9) (g : WP l E R A Y k n (pc + 1) ls (vI (M.1 a i.toNatClampNeg) :: st) M) : WP l E R A Y k n pc ls (vI i :: vA a :: st) M := fun H locs lr hP hS hl hn => va_iald F.1 F.2.1 F.2.2.2.2.2.1.1 hP a 0 (xws_arr E M hk) rfl hin d (g H locs lr hP hS hl hn)
theorem x_cald (F : xFix E A Y cc own nL) {a N9 : Nat} {i : Int32} (hk : xk a = (9, N9)) (d : decode cc pc = .ok (.caload, 1)) (hin : vp_in i N9) (g : WP l E R A Y k n (pc + 1) ls (vI (M.1 a i.toNatClampNeg) :: st) M) : WP l E R A Y k n pc ls (vI i :: vA a :: st) M := fun H locs lr hP hS hl hn => va_cald F.1 F.2.1 F.2.2.2.2.2.1.1 hP a 1 (xws_chr E M hk) rfl hin d (g H locs lr hP hS hl hn)
theorem x_lald (F : xFix E A Y cc own nL) {a N9 : Nat} {i : Int32} (hk : xk a = (10, N9)) (d : decode cc pc = .ok (.laload, 1)) (hin : vp_in i N9) (g : WP l E R A Y k n (pc + 1) ls (vL (M.2.2 a i.toNatClampNeg) :: st) M) : WP l E R A Y k n pc ls (vI i :: vA a :: st) M := fun H locs lr hP hS hl hn => va_lald F.1 F.2.1 F.2.2.2.2.2.1.1 hP a 2 (xws_lng E M hk) rfl hin d (g H locs lr hP hS hl hn)
theorem x_aaldC (F : xFix E A Y cc own nL) {a N9 : Nat} {i : Int32} (hk : xk a = (11, N9)) (d : decode cc pc = .ok (.aaload, 1)) (hin : vp_in i N9) (g : WP l E R A Y k n (pc + 1) ls (vA (18 + 5 * i.toNatClampNeg) :: st) M) : WP l E R A Y k n pc ls (vI i :: vA a :: st) M := fun H locs lr hP hS hl hn => va_aldq F.1 F.2.1 F.2.2.2.2.2.1.1 hP a 3 (xws_chs E M hk) rfl hin d (g H locs lr hP hS hl hn)
theorem x_aaldN (F : xFix E A Y cc own nL) {a N9 : Nat} {i : Int32} (hk : xk a = (12, N9)) (d : decode cc pc = .ok (.aaload, 1)) (hin : vp_in i N9) (g : WP l E R A Y k n (pc + 1) ls (vA (52 + i.toNatClampNeg) :: st) M) : WP l E R A Y k n pc ls (vI i :: vA a :: st) M := fun H locs lr hP hS hl hn => va_aldq F.1 F.2.1 F.2.2.2.2.2.1.1 hP a 4 (xws_nds E M hk) rfl hin d (g H locs lr hP hS hl hn)
theorem x_iast (F : xFix E A Y cc own nL) {a N9 : Nat} {i x : Int32} (hk : xk a = (8, N9)) (d : decode cc pc = .ok (.iastore, 1)) (hin : vp_in i N9) (g : WP l E R A Y k n (pc + 1) ls st (upI M a i.toNatClampNeg x)) : WP l E R A Y k n pc ls (vI x :: vI i :: vA a :: st) M := fun H locs lr hP hS hl hn => va_iast F.1 F.2.1 F.2.2.2.2.2.1.1 hP (xD F M) hS a 0 (xws_arr E M hk) rfl hin d (fun H1 locs1 hP1 _ hS1 => g H1 locs1 lr (by rw [xws_sti hk] at hP1; exact hP1) hS1 hl hn)
theorem x_cast (F : xFix E A Y cc own nL) {a N9 : Nat} {i x : Int32} (hk : xk a = (9, N9)) (d : decode cc pc = .ok (.castore, 1)) (hin : vp_in i N9) (hx : vp_nar .char x = x) (g : WP l E R A Y k n (pc + 1) ls st (upI M a i.toNatClampNeg x)) : WP l E R A Y k n pc ls (vI x :: vI i :: vA a :: st) M := fun H locs lr hP hS hl hn => va_cast F.1 F.2.1 F.2.2.2.2.2.1.1 hP (xD F M) hS a 1 (xws_chr E M hk) rfl hin d (fun H1 locs1 hP1 _ hS1 => g H1 locs1 lr (by first | (rw [hx, xws_stc hk] at hP1; exact hP1) | (rw [xws_stc hk] at hP1; exact hP1)) hS1 hl hn)
theorem x_last (F : xFix E A Y cc own nL) {a N9 : Nat} {i : Int32} {x : Int64} (hk : xk a = (10, N9)) (d : decode cc pc = .ok (.lastore, 1)) (hin : vp_in i N9) (g : WP l E R A Y k n (pc + 1) ls st (upL M a i.toNatClampNeg x)) : WP l E R A Y k n pc ls (vL x :: vI i :: vA a :: st) M := fun H locs lr hP hS hl hn => va_last F.1 F.2.1 F.2.2.2.2.2.1.1 hP (xD F M) hS a 2 (xws_lng E M hk) rfl hin d (fun H1 locs1 hP1 _ hS1 => g H1 locs1 lr (by first | (rw [xws_stl hk] at hP1; exact hP1) | (have e := xws_stl (E := E) (M := M) (k := i.toNatClampNeg) (x := x) hk; exact (by rw [← e]; exact hP1))) hS1 hl hn)
theorem x_alen (F : xFix E A Y cc own nL) {a t9 N9 : Nat} {v : Int32} (hk : xk a = (t9, N9)) (ht : t9 = 8 ∨ t9 = 9 ∨ t9 = 11 ∨ t9 = 12) (hv : Int32.ofNat N9 = v) (d : decode cc pc = .ok (.arraylength, 1)) (g : WP l E R A Y k n (pc + 1) ls (vI v :: st) M) : WP l E R A Y k n pc ls (vA a :: st) M := fun H locs lr hP hS hl hn => by
  rcases ht with rfl | rfl | rfl | rfl
  · exact va_alen F.1 F.2.1 F.2.2.2.2.2.1.1 hP a 0 (xws_arr E M hk) rfl hv d (g H locs lr hP hS hl hn)
  · exact va_alen F.1 F.2.1 F.2.2.2.2.2.1.1 hP a 1 (xws_chr E M hk) rfl hv d (g H locs lr hP hS hl hn)
  · exact va_alen F.1 F.2.1 F.2.2.2.2.2.1.1 hP a 3 (xws_chs E M hk) rfl hv d (g H locs lr hP hS hl hn)
  · exact va_alen F.1 F.2.1 F.2.2.2.2.2.1.1 hP a 4 (xws_nds E M hk) rfl hv d (g H locs lr hP hS hl hn)
/-- dead locals are forgotten -/
theorem x_forget {ls' : List xV} (hlen : ls'.length = ls.length) (hl : ∀ (i : Nat) (v : xV), ls'[i]? = some v → xU v = false → ls[i]? = some v) (g : WP l E R A Y k n pc ls' st M) : WP l E R A Y k n pc ls st M := fun H locs lr hP hS hlr hn => g H locs lr hP hS (hlr.le hl) (by rw [hlen]; exact hn)
theorem x_eqM {M' : xM} (h : M = M') (g : WP l E R A Y k n pc ls st M') : WP l E R A Y k n pc ls st M := h ▸ g
end XR
end
section
/-! CONTRACTS over the world of all cells. XP: the method returns, with post of its answer and the new world (a void method answers vU). XT: it returns, or throws. d: how deep its calls go. -/
def xps : xV → List xV → List xV
  | .inl x, st => .inl x :: st
  | .inr (.inl r), st => .inr (.inl r) :: st
  | .inr (.inr (.inl x)), st => .inr (.inr (.inl x)) :: st
  | .inr (.inr (.inr (.inl x))), st => .inr (.inr (.inr (.inl x))) :: st
  | .inr (.inr (.inr (.inr (.inl q)))), st => .inr (.inr (.inr (.inr (.inl q)))) :: st
  | .inr (.inr (.inr (.inr (.inr _)))), st => st
def xrt (E : xE) : xV → Option Value
  | .inr (.inr (.inr (.inr (.inr _)))) => none
  | v => some (xc E.2.2.1 v)
theorem xrt_ps (E : xE) (r : xV) (st : List xV) : (xrt E r).toList ++ st.map (xc E.2.2.1) = (xps r st).map (xc E.2.2.1) := by
  rcases r with x | r | x | x | q | u <;> rfl
def xPc (E : xE) (args : List xV) (M : xM) : Array Value → State → Prop := va_Pc (args.map (xc E.2.2.1)) (fun U => va_P E.1 vwCl (xws E M) U.heap ∧ xKn E U)
def xQc (E : xE) (post : xV → xM → Prop) : Array Value → State → Outcome → State → Prop := fun _ st o t => (∃ (r : xV) (M' : xM), o = .returned (xrt E r) ∧ post r M' ∧ va_P E.1 vwCl (xws E M') t.heap) ∧ va_F (xA E) st t
def xXc (E : xE) (xpost : String → xM → Prop) : String → State → State → Prop := fun C st t => ∃ M' : xM, xpost C M' ∧ va_P E.1 vwCl (xws E M') t.heap ∧ va_F (xA E) st t
abbrev xRm (d mc ms : Nat) : Room := { frames := d, cells := mc, slots := ms, locals := 64 * d }
def XT (l : Launch) (E : xE) (d mc ms : Nat) (y : MethodName) (cc : ByteArray) (nL : Nat) (rt : Option FieldType) (args : List xV) (M : xM) (post : xV → xM → Prop) (xpost : String → xM → Prop) : Prop :=
  vx_Met l y (Cond.code y cc nL rt :: LW) (xRm d mc ms) (xPc E args M) (xQc E post) (xXc E xpost) mc ms (xA E)
def XP (l : Launch) (E : xE) (d : Nat) (y : MethodName) (cc : ByteArray) (nL : Nat) (rt : Option FieldType) (args : List xV) (M : xM) (post : xV → xM → Prop) : Prop :=
  Met l y (Cond.code y cc nL rt :: LW) (xRm d 0 0) (xPc E args M) (xQc E post) 0 0 (xA E)
/-- the answer and the world behind it are these -/
abbrev XF (l : Launch) (E : xE) (d : Nat) (y : MethodName) (cc : ByteArray) (nL : Nat) (rt : Option FieldType) (args : List xV) (M : xM) (r : xV) (M' : xM) : Prop := XP l E d y cc nL rt args M (fun r' M'' => r' = r ∧ M'' = M')
theorem XP.imp {l : Launch} {E : xE} {d : Nat} {y : MethodName} {cc : ByteArray} {nL : Nat} {rt : Option FieldType} {args : List xV} {M : xM} {post post' : xV → xM → Prop} (h : XP l E d y cc nL rt args M post) (hp : ∀ r M', post r M' → post' r M') : XP l E d y cc nL rt args M post' := by
  unfold XP Met at h ⊢
  exact MetFree.mono h (fun _ _ z => z) (fun _ _ _ _ _ z => z) (fun a st o t _ z => ⟨⟨by obtain ⟨⟨⟨r, M', h1, h2, h3⟩, h4⟩, -⟩ := z; exact ⟨r, M', h1, hp r M' h2, h3⟩, z.1.2⟩, z.2⟩)
theorem XT.imp {l : Launch} {E : xE} {d mc ms : Nat} {y : MethodName} {cc : ByteArray} {nL : Nat} {rt : Option FieldType} {args : List xV} {M : xM} {post post' : xV → xM → Prop} {xpost xpost' : String → xM → Prop} (h : XT l E d mc ms y cc nL rt args M post xpost) (hp : ∀ r M', post r M' → post' r M') (hx : ∀ C M', xpost C M' → xpost' C M') : XT l E d mc ms y cc nL rt args M post' xpost' := by
  unfold XT vx_Met at h ⊢
  exact MetFree.mono h (fun _ _ z => z) (fun _ _ _ _ _ z => z) (fun a st o t _ z => by
    rcases z with z | ⟨q, h1, C, ce, L, ⟨M', h2, h3⟩, h4⟩
    · exact Or.inl ⟨⟨by obtain ⟨⟨⟨r, M', h1, h2, h3⟩, h4⟩, -⟩ := z; exact ⟨r, M', h1, hp r M' h2, h3⟩, z.1.2⟩, z.2⟩
    · exact Or.inr ⟨q, h1, C, ce, L, ⟨M', hx C M' h2, h3⟩, h4⟩)
theorem XP.of_XT {l : Launch} {E : xE} {d : Nat} {y : MethodName} {cc : ByteArray} {nL : Nat} {rt : Option FieldType} {args : List xV} {M : xM} {post : xV → xM → Prop} (h : XT l E d 0 0 y cc nL rt args M post (fun _ _ => False)) : XP l E d y cc nL rt args M post := by
  unfold XT vx_Met at h
  unfold XP Met
  exact MetFree.mono h (fun _ _ z => z) (fun _ _ _ _ _ z => z) (fun a st o t _ z => by
    rcases z with z | ⟨q, -, C, ce, L, ⟨M', h2, -⟩, -⟩
    · exact z
    · exact h2.elim)
theorem XT.of_XP {l : Launch} {E : xE} {d : Nat} {y : MethodName} {cc : ByteArray} {nL : Nat} {rt : Option FieldType} {args : List xV} {M : xM} {post : xV → xM → Prop} {xpost : String → xM → Prop} (h : XP l E d y cc nL rt args M post) : XT l E d 0 0 y cc nL rt args M post xpost := by
  unfold XP Met at h
  unfold XT vx_Met
  exact MetFree.mono h (fun _ _ z => z) (fun _ _ _ _ _ z => z) (fun a st o t _ z => Or.inl z)
/-- what is known goes on through calls -/
theorem xnw_moved {s U : State} (hW : s.WarmedH U.vm) {w : Cond} (hw : xnw w = true) (h : va_Nw w s) : va_Nw w U := by
  cases w <;> simp only [xnw, Bool.false_eq_true] at hw
  · first | exact va_Nw.warmM hW h | exact va_Nw.warmF hW h
  · first | exact va_Nw.warmM hW h | exact va_Nw.warmF hW h
theorem xnw_same {u U : State} (hv : u.vm = U.vm) {w : Cond} (hw : xnw w = true) (h : va_Nw w u) : va_Nw w U := by
  cases w <;> simp only [xnw, Bool.false_eq_true] at hw
  · exact va_Nw.same rfl hv h
  · exact va_Nw.same rfl hv h
theorem xKn.go {E : xE} {s U : State} {A : Nat → Prop} {locs : List Loc} {H : Heap} (h : xKn E s) (hA2 : ∀ q, q < s.heap.size → A q → xA E q) (hS : va_S A s.heap H locs) (hU : U.heap = H) (hW : s.WarmedH U.vm) : xKn E U := by
  obtain ⟨h1, h2, h3, h4, h5⟩ := h
  have hq : ∀ a : Nat, a < s.heap.size → ¬ xA E a → U.heap[a]? = s.heap[a]? := fun a ha hn => by rw [hU]; exact hS.2.1 a ha (fun z => hn (hA2 a ha z))
  exact ⟨va_K.moved hW.alike h1, fun w hw => xnw_moved hW (List.mem_filter.mp hw).2 (h2 w hw), h3, (h4.moved hW.alike).kept hq, (h5.moved hW.alike).kept hq⟩
theorem xKn.blind {E : xE} {U : State} {g : JFrame} {mk : MethodId} {a : Array Value} (h : xKn E U) : xKn E (U.calling g mk a) := by
  obtain ⟨h1, h2, h3, h4, h5⟩ := h
  exact ⟨va_K.moved (u := U) (U := U.calling g mk a) (Vm.Alike.refl U.vm) h1, fun w hw => xnw_same (u := U) (U := U.calling g mk a) rfl (List.mem_filter.mp hw).2 (h2 w hw), h3, vx_Zq.moved (u := U) (U := U.calling g mk a) (Vm.Alike.refl U.vm) h4, vx_Zq.moved (u := U) (U := U.calling g mk a) (Vm.Alike.refl U.vm) h5⟩
theorem xPc_blind (E : xE) (args : List xV) (M : xM) : FrameBlind (xPc E args M) := fun a U g mk q => ⟨q.1, q.2.1, q.2.2.blind⟩
/-- a method's entry -/
def xEnt : List xV → List xV
  | [] => []
  | v :: vs => v :: (if xcat v = 2 then vU :: xEnt vs else xEnt vs)
theorem xEnt_len (ad : Nat → Nat) (as : List xV) : (lg_sl (as.map (xc ad))).length = (xEnt as).length := by
  induction as with
  | nil => rfl
  | cons v vs ih =>
    unfold lg_sl at ih
    simp only [lg_sl, List.map_cons, List.flatMap_cons, List.length_append, ih, xEnt, List.length_cons, xc_cat]
    split <;> simp <;> omega
theorem xEnt_at (ad : Nat → Nat) (as : List xV) : ∀ (k i : Nat) (v : xV), (xEnt as)[i]? = some v → xU v = false → (k + i, xc ad v) ∈ lv_args k (as.map (xc ad)) := by
  induction as with
  | nil => intro k i v h; simp [xEnt] at h
  | cons u us ih =>
    intro k i v h hv
    simp only [List.map_cons, lv_args, xc_cat]
    cases i with
    | zero =>
      simp [xEnt] at h
      subst h
      exact List.mem_cons_self
    | succ i =>
      simp only [xEnt, List.getElem?_cons_succ] at h
      refine List.mem_cons_of_mem _ ?_
      by_cases hc : xcat u = 2
      · rw [if_pos hc] at h ⊢
        cases i with
        | zero =>
          simp at h
          subst h
          cases hv
        | succ i =>
          simp only [List.getElem?_cons_succ] at h
          have := ih (k + 2) i v h hv
          rwa [show k + (i + 1 + 1) = k + 2 + i by omega]
      · rw [if_neg hc] at h ⊢
        have := ih (k + 1) i v h hv
        rwa [show k + (i + 1) = k + 1 + i by omega]
theorem xEnt_ls {ad : Nat → Nat} {as : List xV} {nL : Nat} (h : (xEnt as).length ≤ nL) : xLs ad nL (xEnt as ++ List.replicate (nL - (xEnt as).length) vU) ((lg_sl (as.map (xc ad)) ++ List.replicate (nL - (lg_sl (as.map (xc ad))).length) Slot.unset).toArray) := by
  obtain ⟨h1, h2, h3⟩ := lv_entry (as.map (xc ad)) (n := nL) (by rw [xEnt_len]; exact h)
  refine ⟨h1, h2, fun i v hi hv => ?_⟩
  rcases Nat.lt_or_ge i (xEnt as).length with hl | hl
  · rw [List.getElem?_append_left hl] at hi
    have := h3 _ (xEnt_at ad as 0 i v hi hv)
    simpa using this
  · rw [List.getElem?_append_right hl] at hi
    have := List.eq_of_mem_replicate (List.mem_of_getElem? hi)
    subst this
    cases hv
/-- how the method ends -/
def xRet (E : xE) (Y : xY) (rt : Option FieldType) (mc ms : Nat) (post : xV → xM → Prop) (xpost : String → xM → Prop) : Prop :=
  yQ Y = vx_MQ (yb Y) (xQc E post) (xXc E xpost) (ya Y) (ys Y) mc ms (xA E) ∧ (yM Y).sig.returnType = rt ∧ (∀ x ∈ (yc Y).exceptionTable.toList, False)
theorem xt_start {l : Launch} {E : xE} {d mc ms : Nat} {y : MethodName} {cc : ByteArray} {nL : Nat} {rt : Option FieldType} {args : List xV} {M : xM} {post : xV → xM → Prop} {xpost : String → xM → Prop} (hy : plainName y.cls = true) {ls0 : List xV} (hls : xEnt args ++ List.replicate (nL - (xEnt args).length) vU = ls0) (hlen : (xEnt args).length ≤ nL)
    (body : ∀ Y : xY, xFix E (xA E) Y cc y.cls nL → xRet E Y rt mc ms post xpost → WP l E (xRm d mc ms) (xA E) Y 0 0 0 ls0 [] M) : XT l E d mc ms y cc nL rt args M post xpost := by
  refine vx_ofW (cc := cc) (maxL := nL) (ret := rt) hy rfl ?_
  intro p e s m args' below meth c s₁ B hml htab hv
  obtain ⟨rfl, hP, hk⟩ := hv
  have hts := atoms_spec (ws := Cond.code y cc nL rt :: LW) B.pre
  have hF : xFix E (xA E) (p, e, s, m, (args.map (xc E.2.2.1)).toArray, below, meth, c, vx_MQ below (xQc E post) (xXc E xpost) (args.map (xc E.2.2.1)).toArray s mc ms (xA E)) cc y.cls nL :=
    ⟨B.exec, B.bytes, hml, findClass_of_methodNamed B.named, fun w hw => hts w (List.mem_cons_of_mem _ hw), hk, fun a ha => ⟨a, ha, rfl⟩, fun q _ z => z, B.notSynchronized⟩
  have hb := body _ hF ⟨rfl, B.returns, htab⟩
  rw [lg_entry_eq]
  subst hls
  refine hb s.heap [] _ hP va_S.rf ?_ ?_
  · show xLs E.2.2.1 c.maxLocals _ _
    rw [hml]
    exact xEnt_ls hlen
  · show _ ≤ c.maxLocals
    rw [hml]
    simp
    omega
theorem xp_start {l : Launch} {E : xE} {d : Nat} {y : MethodName} {cc : ByteArray} {nL : Nat} {rt : Option FieldType} {args : List xV} {M : xM} {post : xV → xM → Prop} (hy : plainName y.cls = true) {ls0 : List xV} (hls : xEnt args ++ List.replicate (nL - (xEnt args).length) vU = ls0) (hlen : (xEnt args).length ≤ nL)
    (body : ∀ Y : xY, xFix E (xA E) Y cc y.cls nL → xRet E Y rt 0 0 post (fun _ _ => False) → WP l E (xRm d 0 0) (xA E) Y 0 0 0 ls0 [] M) : XP l E d y cc nL rt args M post := XP.of_XT (xt_start hy hls hlen body)
section XEND
variable {l : Launch} {E : xE} {R : Room} {Y : xY} {cc : ByteArray} {own : String} {nL : Nat} {k n pc mc ms : Nat} {ls st : List xV} {M : xM} {post : xV → xM → Prop} {xpost : String → xM → Prop} {rt : FieldType}
theorem x_iret (F : xFix E (xA E) Y cc own nL) (FR : xRet E Y (some rt) mc ms post xpost) {x : Int32} (d : decode cc pc = .ok (.ireturn, 1)) (hn : narrow rt (.int x) = .int x) (hk : k ≤ mc) (hs : n ≤ ms) (h : post (vI x) M) : WP l E R (xA E) Y k n pc ls [vI x] M := by
  intro H locs lr hP hS hl hn9
  rw [show yQ Y = _ from FR.1]
  refine W.widen hk hs (vx_ret ?_)
  exact W.zret F.1 F.2.1 FR.2.1 hn (fun t ht hW => ⟨⟨vI x, M, rfl, h, by rw [ht]; exact hP⟩, hS.F ht⟩) hS.2.2 d F.2.2.2.2.2.2.2.2
theorem x_lret (F : xFix E (xA E) Y cc own nL) (FR : xRet E Y (some .long) mc ms post xpost) {x : Int64} (d : decode cc pc = .ok (.lreturn, 1)) (hk : k ≤ mc) (hs : n ≤ ms) (h : post (vL x) M) : WP l E R (xA E) Y k n pc ls [vL x] M := by
  intro H locs lr hP hS hl hn9
  rw [show yQ Y = _ from FR.1]
  refine W.widen hk hs (vx_ret ?_)
  exact W.lret F.1 F.2.1 FR.2.1 (fun t ht hW => ⟨⟨vL x, M, rfl, h, by rw [ht]; exact hP⟩, hS.F ht⟩) hS.2.2 d F.2.2.2.2.2.2.2.2
theorem x_dret (F : xFix E (xA E) Y cc own nL) (FR : xRet E Y (some .double) mc ms post xpost) {x : UInt64} (d : decode cc pc = .ok (.dreturn, 1)) (hk : k ≤ mc) (hs : n ≤ ms) (h : post (vD x) M) : WP l E R (xA E) Y k n pc ls [vD x] M := by
  intro H locs lr hP hS hl hn9
  rw [show yQ Y = _ from FR.1]
  refine W.widen hk hs (vx_ret ?_)
  exact W.dret F.1 F.2.1 FR.2.1 (fun t ht hW => ⟨⟨vD x, M, rfl, h, by rw [ht]; exact hP⟩, hS.F ht⟩) hS.2.2 d F.2.2.2.2.2.2.2.2
theorem x_vret (F : xFix E (xA E) Y cc own nL) (FR : xRet E Y none mc ms post xpost) (d : decode cc pc = .ok (.return_, 1)) (hk : k ≤ mc) (hs : n ≤ ms) (h : post vU M) : WP l E R (xA E) Y k n pc ls [] M := by
  intro H locs lr hP hS hl hn9
  rw [show yQ Y = _ from FR.1]
  refine W.widen hk hs (vx_ret ?_)
  exact W.vret F.1 F.2.1 FR.2.1 (fun t ht hW => ⟨⟨vU, M, rfl, h, by rw [ht]; exact hP⟩, hS.F ht⟩) hS.2.2 d F.2.2.2.2.2.2.2.2
theorem x_aret (F : xFix E (xA E) Y cc own nL) (FR : xRet E Y (some rt) mc ms post xpost) {r : Option Nat} (d : decode cc pc = .ok (.areturn, 1)) (hrt : (∃ n, rt = .object n) ∨ ∃ t, rt = .array t) (hk : k ≤ mc) (hs : n ≤ ms) (h : post (vR r) M) : WP l E R (xA E) Y k n pc ls [vR r] M := by
  intro H locs lr hP hS hl hn9
  rw [show yQ Y = _ from FR.1]
  refine W.widen hk hs (vx_ret ?_)
  exact W.aret F.1 F.2.1 FR.2.1 hrt (by cases r with
    | none => exact Or.inl rfl
    | some a => exact Or.inr ⟨_, rfl⟩) (fun t ht hW => ⟨⟨vR r, M, rfl, h, by rw [ht]; exact hP⟩, hS.F ht⟩) hS.2.2 d F.2.2.2.2.2.2.2.2
theorem x_aretQ (F : xFix E (xA E) Y cc own nL) (FR : xRet E Y (some rt) mc ms post xpost) {q : Nat} (d : decode cc pc = .ok (.areturn, 1)) (hrt : (∃ n, rt = .object n) ∨ ∃ t, rt = .array t) (hk : k ≤ mc) (hs : n ≤ ms) (h : post (vQ q) M) : WP l E R (xA E) Y k n pc ls [vQ q] M := by
  intro H locs lr hP hS hl hn9
  rw [show yQ Y = _ from FR.1]
  refine W.widen hk hs (vx_ret ?_)
  exact W.aret F.1 F.2.1 FR.2.1 hrt (Or.inr ⟨_, rfl⟩) (fun t ht hW => ⟨⟨vQ q, M, rfl, h, by rw [ht]; exact hP⟩, hS.F ht⟩) hS.2.2 d F.2.2.2.2.2.2.2.2
end XEND
/-- links of calls -/
def xML (own : String) (idx : Nat) (y : MethodName) : Prop := Cond.methodLink own idx y ∈ LW
def xMN (own : String) (idx : Nat) (y : MethodName) : Prop := ∃ host, Cond.methodLinkNest own idx y host ∈ NW
def xMY (y : MethodName) (n : Nat) : Prop := Cond.initialized y.cls ∈ LW ∧ y.cls ≠ "java/lang/invoke/MethodHandle" ∧ y.cls ≠ "java/lang/invoke/VarHandle" ∧ (parseMethodDescriptor y.desc).map (fun d => d.parameters.length) = some n
def xMV (y : MethodName) (cc : ByteArray) (nL : Nat) (rt : Option FieldType) (n : Nat) : Prop := xMY y n ∧ Cond.code y cc nL rt ∈ LW ∧ Cond.instanceMethod y ∈ LW ∧ Cond.selects y.cls y y ∈ LW
def xMS (y : MethodName) (cc : ByteArray) (nL : Nat) (rt : Option FieldType) (n : Nat) : Prop := xMY y n ∧ Cond.code y cc nL rt ∈ LW ∧ Cond.static y ∈ LW
theorem LW_goodIn {ws : List Cond} (h : ∀ w ∈ ws, w ∈ LW) : GoodIn LW ws := fun w hw => ⟨h w hw, good_of_word (LW_good (h w hw))⟩
section XCALL
variable {l : Launch} {E : xE} {R : Room} {A : Nat → Prop} {Y : xY} {cc : ByteArray} {own : String} {nL : Nat} {k n pc : Nat} {ls st st0 : List xV} {M : xM}
variable {y : MethodName} {cy : ByteArray} {nLy : Nat} {rty : Option FieldType} {d' mc ms idx : Nat} {As : List xV} {post : xV → xM → Prop} {xpost : String → xM → Prop} {a : Array Value}
theorem xS_go (F : xFix E A Y cc own nL) {H : Heap} {locs : List Loc} (hS : va_S A (ys Y).heap H locs) {st₀ t T' : State} {L : List Loc} (h0 : st₀.heap = H) (hL : ∀ q ∈ L, xA E q.base) (e1 : T'.heap = t.heap) (hF : va_F (xA E) st₀ t) : va_S A (ys Y).heap T'.heap (locs ++ L) := by
  have hAin : ∀ q, xA E q → A q := fun q ⟨i, hi, e⟩ => by rw [e]; exact F.2.2.2.2.2.2.1 i hi
  obtain ⟨hz, hk⟩ := hF
  rw [h0] at hz hk
  refine ⟨Nat.le_trans hS.1 (by rw [e1]; exact hz), fun q h1 h2 => ?_, fun q hq => ?_⟩
  · rw [e1, hk q (Nat.lt_of_lt_of_le h1 hS.1) (fun z => h2 (hAin q z))]
    exact hS.2.1 q h1 h2
  · rcases List.mem_append.mp hq with h | h
    · exact hS.2.2 q h
    · exact hAin _ (hL q h)
theorem x_run (F : xFix E A Y cc own nL) (hr : ∀ (H : Heap) (locs : List Loc) (lr : Array Slot), va_P E.1 vwCl (xws E M) H → va_S A (ys Y).heap H locs → xLs E.2.2.1 (yc Y).maxLocals ls lr → va_Run (yp Y) l (ye Y) R (ys Y) (ym Y) (ya Y) (yb Y) (yM Y) (yc Y) H locs k n 0 0 (F0 (ym Y) pc lr (st0.map (xc E.2.2.1))) (st.map (xc E.2.2.1)) (xQc E post a) (xA E))
    (g : ∀ r M', post r M' → WP l E R A Y k n (pc + 3) ls (xps r st) M') : WP l E R A Y k n pc ls st0 M := by
  intro H locs lr hP hS hl hn T hT X
  obtain ⟨v, st₀, t, T', L, h0, X', hL, e1, e2, ⟨⟨r, M', hv, hp, hb⟩, hF⟩, hg⟩ := hr H locs lr hP hS hl T hT X
  have hv' : v = xrt E r := Option.some.inj (by simpa using hv)
  subst hv'
  obtain ⟨t2, a1, b1⟩ := g r M' hp T'.heap (locs ++ L) lr (by rw [e1]; exact hb) (xS_go F hS h0 hL e1 hF) hl hn T' rfl X'
  refine ⟨t2, hg t2 ?_, b1⟩
  show Steps _ _ _ (T'.setTop (F0 (ym Y) (pc + 3) lr ((xrt E r).toList ++ st.map (xc E.2.2.1)))) t2
  rw [xrt_ps]
  exact a1
/-- an exception on its way out of a call -/
def WX (l : Launch) (E : xE) (R : Room) (A : Nat → Prop) (Y : xY) (k n pc : Nat) (ls st : List xV) (M : xM) (C : String) : Prop :=
  ∀ (H : Heap) (locs : List Loc) (lr : Array Slot) (q : Addr) (ce : Cell), va_P E.1 vwCl (xws E M) H → va_S A (ys Y).heap H locs → xLs E.2.2.1 (yc Y).maxLocals ls lr → ls.length ≤ (yc Y).maxLocals → H[q]? = some ce → ce.vm = .none → (ys Y).vm.findClass C = some ce.cls →
    vx_W (yp Y) l (ye Y) R (ys Y) (ym Y) (ya Y) (yb Y) (yM Y) (yc Y) H locs k n (yQ Y) (F0 (ym Y) pc lr (st.map (xc E.2.2.1))) q
theorem x_runX (F : xFix E A Y cc own nL) (hr : ∀ (H : Heap) (locs : List Loc) (lr : Array Slot), va_P E.1 vwCl (xws E M) H → va_S A (ys Y).heap H locs → xLs E.2.2.1 (yc Y).maxLocals ls lr → vx_Run (yp Y) l (ye Y) R (ys Y) (ym Y) (ya Y) (yb Y) (yM Y) (yc Y) H locs k n mc ms (F0 (ym Y) pc lr (st0.map (xc E.2.2.1))) (st.map (xc E.2.2.1)) (xQc E post a) (xXc E xpost) (xA E))
    (gx : ∀ C M', xpost C M' → WX l E R A Y (k + mc) (n + ms) pc ls st M' C) (g : ∀ r M', post r M' → WP l E R A Y (k + mc) (n + ms) (pc + 3) ls (xps r st) M') : WP l E R A Y k n pc ls st0 M := by
  intro H locs lr hP hS hl hn T hT X
  rcases hr H locs lr hP hS hl T hT X with ⟨v, st₀, t, T', L, h0, X', hL, e1, e2, ⟨⟨r, M', hv, hp, hb⟩, hF⟩, hg⟩ | ⟨q, st₀, t, T', L, C, ce, h0, X', hL, e1, e2, ⟨M', hp, hb, hF⟩, hce, hcv, hcl, hg⟩
  · have hv' : v = xrt E r := Option.some.inj (by simpa using hv)
    subst hv'
    obtain ⟨t2, a1, b1⟩ := g r M' hp T'.heap (locs ++ L) lr (by rw [e1]; exact hb) (xS_go F hS h0 hL e1 hF) hl hn T' rfl X'
    refine ⟨t2, hg t2 ?_, b1⟩
    show Steps _ _ _ (T'.setTop (F0 (ym Y) (pc + 3) lr ((xrt E r).toList ++ st.map (xc E.2.2.1)))) t2
    rw [xrt_ps]
    exact a1
  · obtain ⟨t2, a1, b1⟩ := gx C M' hp T'.heap (locs ++ L) lr q ce (by rw [e1]; exact hb) (xS_go F hS h0 hL e1 hF) hl hn (by rw [e1]; exact hce) hcv hcl T' rfl X'
    exact ⟨t2, hg.trans a1, b1⟩
theorem xst_sum {st : List xV} (ad : Nat → Nat) (h : (st.map xcat).sum ≤ 8) : ((st.map (xc ad)).map fun v => v.category).sum ≤ 8 := by
  rw [List.map_map]
  have : (fun v => v.category) ∘ xc ad = xcat := funext fun v => xc_cat ad v
  rw [this]
  exact h
theorem xcw_V {i : Nat} (F : xFix E A Y cc own nL) (hl : xML own idx y) (hv : xMV y cy nLy rty i) (hR : d' + 1 ≤ R.frames ∧ 8 + (nLy + 11) + 64 * d' ≤ R.locals) : CallW R (ys Y) (ya Y) own y.cls idx y cy nLy rty (Cond.code y cy nLy rty :: LW) (xRm d' mc ms) mc ms i := by
  obtain ⟨⟨i1, i2, i3, i4⟩, c1, c2, c3⟩ := hv
  refine cwV (Ts := LW) i F.2.2.2.2.1 (LW_goodIn ?_) rfl rfl rfl ⟨rfl, i2, i3, i4⟩ hR
  intro w hw
  rcases List.mem_append.mp hw with h | h
  · rcases List.mem_cons.mp h with rfl | h
    · exact hl
    rcases List.mem_cons.mp h with rfl | h
    · exact c2
    rcases List.mem_cons.mp h with rfl | h
    · exact c3
    rcases List.mem_cons.mp h with rfl | h
    · exact i1
    cases h
  · rcases List.mem_cons.mp h with rfl | h
    · exact c1
    · exact h
theorem xcw_S {i : Nat} (F : xFix E A Y cc own nL) (hl : xML own idx y) (hv : xMS y cy nLy rty i) (hR : d' + 1 ≤ R.frames ∧ 8 + (nLy + 11) + 64 * d' ≤ R.locals) : CallB R (ys Y) (ya Y) own idx y cy nLy rty (Cond.code y cy nLy rty :: LW) (xRm d' mc ms) mc ms i ∧ (Cond.static y).before (ya Y) (ys Y) = true := by
  obtain ⟨⟨i1, i2, i3, i4⟩, c1, c2⟩ := hv
  refine ⟨callB_of (Ts := LW) i F.2.2.2.2.1 (LW_goodIn ?_) rfl rfl rfl (F.2.2.2.2.1 _ i1) (F.2.2.2.2.1 _ hl) ⟨i2, i3, i4⟩ hR, F.2.2.2.2.1 _ c2⟩
  intro w h
  rcases List.mem_cons.mp h with rfl | h
  · exact c1
  · exact h
theorem xcw_N {i : Nat} {host : String} (F : xFix E A Y cc own nL) (hl : Cond.methodLinkNest own idx y host ∈ NW) (hv : xMS y cy nLy rty i) (hR : d' + 1 ≤ R.frames ∧ 8 + (nLy + 11) + 64 * d' ≤ R.locals) : va_CN R (ys Y) (ya Y) own idx y host cy nLy rty (Cond.code y cy nLy rty :: LW) (xRm d' mc ms) mc ms i := by
  obtain ⟨⟨i1, i2, i3, i4⟩, c1, c2⟩ := hv
  refine va_cnB (Ts := LW) i F.2.2.2.2.1 (LW_goodIn ?_) rfl rfl rfl (F.2.2.2.2.2.1.2.1 _ hl) (F.2.2.2.2.1 _ i1) ⟨i2, i3, i4⟩ hR
  intro w h
  rcases List.mem_cons.mp h with rfl | h
  · exact c1
  · exact h
theorem xpre (F : xFix E A Y cc own nL) (as : List xV) {H : Heap} {locs : List Loc} (hP : va_P E.1 vwCl (xws E M) H) (hS : va_S A (ys Y).heap H locs) : ∀ U : State, U.heap = H → (ys Y).WarmedH U.vm → xPc E as M (as.map (xc E.2.2.1)).toArray U := fun U hU hW => ⟨rfl, by rw [hU]; exact hP, F.2.2.2.2.2.1.go F.2.2.2.2.2.2.2.1 hS hU hW⟩
theorem x_callVP (F : xFix E A Y cc own nL) {b ci N9 : Nat} (hM : XP l E d' y cy nLy rty (vA b :: As) M post) (hl : xML own idx y) (hv : xMV y cy nLy rty As.length) (hk : xk b = (ci, N9)) (hc8 : ci < 8) (hci : vwCl[ci]?.map (fun q => q.1) = some y.cls) (hR : d' + 1 ≤ R.frames ∧ 8 + (nLy + 11) + 64 * d' ≤ R.locals) (hcs : k ≤ R.cells ∧ n ≤ R.slots) (hst : (st.map xcat).sum ≤ 8) (hs : st0 = As.reverse ++ vA b :: st) (d : decode cc pc = .ok (.invokevirtual idx, 3)) (g : ∀ r M', post r M' → WP l E R A Y k n (pc + 3) ls (xps r st) M') : WP l E R A Y k n pc ls st0 M := by
  subst hs
  refine x_run (a := (xc E.2.2.1 (vA b) :: As.map (xc E.2.2.1)).toArray) F ?_ g
  intro H locs lr hP hS hlr
  cases hq : vwCl[ci]? with
  | none => rw [hq] at hci; cases hci
  | some q =>
    have hq1 : q.1 = y.cls := by rw [hq] at hci; exact Option.some.inj hci
    have hrecv := va_recv F.2.2.2.2.2.1.1 hP hq (xws_obj E M hk hc8)
    rw [hq1] at hrecv
    exact va_runV (As := As.map (xc E.2.2.1)) ⟨F.1, F.2.1, F.2.2.1, F.2.2.2.1, F.2.2.2.2.1⟩ hM (xcw_V F hl hv hR) ⟨xPc_blind _ _ _, hrecv, xpre F (vA b :: As) hP hS⟩ rfl (by simp) (by rw [← F.2.2.1]; exact hlr.1) (by simp [xc, xrv]) (lv_room (xst_sum _ hst)) d hcs
theorem x_callSP (F : xFix E A Y cc own nL) (hM : XP l E d' y cy nLy rty As M post) (hl : xML own idx y) (hv : xMS y cy nLy rty As.length) (hR : d' + 1 ≤ R.frames ∧ 8 + (nLy + 11) + 64 * d' ≤ R.locals) (hcs : k ≤ R.cells ∧ n ≤ R.slots) (hst : (st.map xcat).sum ≤ 8) (hs : st0 = As.reverse ++ st) (d : decode cc pc = .ok (.invokestatic idx, 3)) (g : ∀ r M', post r M' → WP l E R A Y k n (pc + 3) ls (xps r st) M') : WP l E R A Y k n pc ls st0 M := by
  subst hs
  refine x_run (a := (As.map (xc E.2.2.1)).toArray) F ?_ g
  intro H locs lr hP hS hlr
  exact va_runS (As := As.map (xc E.2.2.1)) ⟨F.1, F.2.1, F.2.2.1, F.2.2.2.1, F.2.2.2.2.1⟩ hM (xcw_S F hl hv hR) ⟨xPc_blind _ _ _, xpre F As hP hS⟩ rfl (by simp) (by rw [← F.2.2.1]; exact hlr.1) (by simp) (lv_room (xst_sum _ hst)) d hcs
theorem x_callNP (F : xFix E A Y cc own nL) (hM : XP l E d' y cy nLy rty As M post) (hl : xMN own idx y) (hv : xMS y cy nLy rty As.length) (hR : d' + 1 ≤ R.frames ∧ 8 + (nLy + 11) + 64 * d' ≤ R.locals) (hcs : k ≤ R.cells ∧ n ≤ R.slots) (hst : (st.map xcat).sum ≤ 8) (hs : st0 = As.reverse ++ st) (d : decode cc pc = .ok (.invokestatic idx, 3)) (g : ∀ r M', post r M' → WP l E R A Y k n (pc + 3) ls (xps r st) M') : WP l E R A Y k n pc ls st0 M := by
  subst hs
  obtain ⟨host, hl⟩ := hl
  refine x_run (a := (As.map (xc E.2.2.1)).toArray) F ?_ g
  intro H locs lr hP hS hlr
  exact va_runSN (As := As.map (xc E.2.2.1)) ⟨F.1, F.2.1, F.2.2.1, F.2.2.2.1, F.2.2.2.2.1⟩ hM ⟨xcw_N F hl hv hR, F.2.2.2.2.1 _ hv.2.2, trivial⟩ ⟨xPc_blind _ _ _, xpre F As hP hS⟩ rfl (by simp) (by rw [← F.2.2.1]; exact hlr.1) (by simp) (lv_room (xst_sum _ hst)) d hcs
theorem x_callVT (F : xFix E A Y cc own nL) {b ci N9 : Nat} (hM : XT l E d' mc ms y cy nLy rty (vA b :: As) M post xpost) (hl : xML own idx y) (hv : xMV y cy nLy rty As.length) (hk : xk b = (ci, N9)) (hc8 : ci < 8) (hci : vwCl[ci]?.map (fun q => q.1) = some y.cls) (hR : d' + 1 ≤ R.frames ∧ 8 + (nLy + 11) + 64 * d' ≤ R.locals) (hcs : k + mc ≤ R.cells ∧ n + ms ≤ R.slots) (hst : (st.map xcat).sum ≤ 8) (hs : st0 = As.reverse ++ vA b :: st) (d : decode cc pc = .ok (.invokevirtual idx, 3)) (gx : ∀ C M', xpost C M' → WX l E R A Y (k + mc) (n + ms) pc ls st M' C) (g : ∀ r M', post r M' → WP l E R A Y (k + mc) (n + ms) (pc + 3) ls (xps r st) M') : WP l E R A Y k n pc ls st0 M := by
  subst hs
  refine x_runX (a := (xc E.2.2.1 (vA b) :: As.map (xc E.2.2.1)).toArray) F ?_ gx g
  intro H locs lr hP hS hlr
  cases hq : vwCl[ci]? with
  | none => rw [hq] at hci; cases hci
  | some q =>
    have hq1 : q.1 = y.cls := by rw [hq] at hci; exact Option.some.inj hci
    have hrecv := va_recv F.2.2.2.2.2.1.1 hP hq (xws_obj E M hk hc8)
    rw [hq1] at hrecv
    exact vx_runV (As := As.map (xc E.2.2.1)) ⟨F.1, F.2.1, F.2.2.1, F.2.2.2.1, F.2.2.2.2.1⟩ hM (xcw_V F hl hv hR) ⟨xPc_blind _ _ _, hrecv, xpre F (vA b :: As) hP hS⟩ rfl (by simp) (by rw [← F.2.2.1]; exact hlr.1) (by simp [xc, xrv]) (lv_room (xst_sum _ hst)) d hcs
theorem x_callST (F : xFix E A Y cc own nL) (hM : XT l E d' mc ms y cy nLy rty As M post xpost) (hl : xML own idx y) (hv : xMS y cy nLy rty As.length) (hR : d' + 1 ≤ R.frames ∧ 8 + (nLy + 11) + 64 * d' ≤ R.locals) (hcs : k + mc ≤ R.cells ∧ n + ms ≤ R.slots) (hst : (st.map xcat).sum ≤ 8) (hs : st0 = As.reverse ++ st) (d : decode cc pc = .ok (.invokestatic idx, 3)) (gx : ∀ C M', xpost C M' → WX l E R A Y (k + mc) (n + ms) pc ls st M' C) (g : ∀ r M', post r M' → WP l E R A Y (k + mc) (n + ms) (pc + 3) ls (xps r st) M') : WP l E R A Y k n pc ls st0 M := by
  subst hs
  refine x_runX (a := (As.map (xc E.2.2.1)).toArray) F ?_ gx g
  intro H locs lr hP hS hlr
  exact vx_runS (As := As.map (xc E.2.2.1)) ⟨F.1, F.2.1, F.2.2.1, F.2.2.2.1, F.2.2.2.2.1⟩ hM (xcw_S F hl hv hR) ⟨xPc_blind _ _ _, xpre F As hP hS⟩ rfl (by simp) (by rw [← F.2.2.1]; exact hlr.1) (by simp) (lv_room (xst_sum _ hst)) d hcs
end XCALL
/-- an exception that is not caught here goes on to the caller -/
theorem x_out {l : Launch} {E : xE} {R : Room} {Y : xY} {cc : ByteArray} {own : String} {nL : Nat} {k n pc mc ms : Nat} {ls st : List xV} {M : xM} {post : xV → xM → Prop} {xpost : String → xM → Prop} {rt : Option FieldType} {C : String} (F : xFix E (xA E) Y cc own nL) (FR : xRet E Y rt mc ms post xpost) (hk : k ≤ mc) (hs : n ≤ ms) (h : xpost C M) : WX l E R (xA E) Y k n pc ls st M C := by
  intro H locs lr q ce hP hS hl hn hq hv hcl
  rw [show yQ Y = _ from FR.1]
  exact vx_out (fun x hx => (FR.2.2 x hx).elim) F.2.2.2.2.2.2.2.2 hq hv hcl (fun t ht hW => ⟨M, h, by rw [ht]; exact hP, hS.F ht⟩) hS.2.2 hk hs
theorem x_V0 {l : Launch} {E : xE} {R : Room} {A : Nat → Prop} {Y : xY} {cc : ByteArray} {own : String} {nL : Nat} {k n pc : Nat} {ls st : List xV} {M : xM} {y : MethodName} {cy : ByteArray} {nLy : Nat} {rty : Option FieldType} {d' idx : Nat} {r : xV} {M' : xM} (F : xFix E A Y cc own nL) {b ci N9 : Nat} (hM : XF l E d' y cy nLy rty (vA b :: []) M r M') (hl : xML own idx y) (hv : xMV y cy nLy rty 0) (hk : xk b = (ci, N9)) (d : decode cc pc = .ok (.invokevirtual idx, 3)) (hc8 : ci < 8) (hci : vwCl[ci]?.map (fun q => q.1) = some y.cls) (hR : d' + 1 ≤ R.frames ∧ 8 + (nLy + 11) + 64 * d' ≤ R.locals) (hcs : k ≤ R.cells ∧ n ≤ R.slots) (hst : (st.map xcat).sum ≤ 8) (g : WP l E R A Y k n (pc + 3) ls (xps r st) M') : WP l E R A Y k n pc ls (vA b :: st) M := x_callVP F hM hl hv hk hc8 hci hR hcs hst rfl d (fun _ _ h => by rw [h.1, h.2]; exact g)
theorem x_V0P {l : Launch} {E : xE} {R : Room} {A : Nat → Prop} {Y : xY} {cc : ByteArray} {own : String} {nL : Nat} {k n pc : Nat} {ls st : List xV} {M : xM} {y : MethodName} {cy : ByteArray} {nLy : Nat} {rty : Option FieldType} {d' idx : Nat} {post : xV → xM → Prop} (F : xFix E A Y cc own nL) {b ci N9 : Nat} (hM : XP l E d' y cy nLy rty (vA b :: []) M post) (hl : xML own idx y) (hv : xMV y cy nLy rty 0) (hk : xk b = (ci, N9)) (d : decode cc pc = .ok (.invokevirtual idx, 3)) (hc8 : ci < 8) (hci : vwCl[ci]?.map (fun q => q.1) = some y.cls) (hR : d' + 1 ≤ R.frames ∧ 8 + (nLy + 11) + 64 * d' ≤ R.locals) (hcs : k ≤ R.cells ∧ n ≤ R.slots) (hst : (st.map xcat).sum ≤ 8) (g : ∀ r M', post r M' → WP l E R A Y k n (pc + 3) ls (xps r st) M') : WP l E R A Y k n pc ls (vA b :: st) M := x_callVP F hM hl hv hk hc8 hci hR hcs hst rfl d g
theorem x_S0 {l : Launch} {E : xE} {R : Room} {A : Nat → Prop} {Y : xY} {cc : ByteArray} {own : String} {nL : Nat} {k n pc : Nat} {ls st : List xV} {M : xM} {y : MethodName} {cy : ByteArray} {nLy : Nat} {rty : Option FieldType} {d' idx : Nat} {r : xV} {M' : xM} (F : xFix E A Y cc own nL) (hM : XF l E d' y cy nLy rty [] M r M') (hl : xML own idx y) (hv : xMS y cy nLy rty 0) (d : decode cc pc = .ok (.invokestatic idx, 3)) (hR : d' + 1 ≤ R.frames ∧ 8 + (nLy + 11) + 64 * d' ≤ R.locals) (hcs : k ≤ R.cells ∧ n ≤ R.slots) (hst : (st.map xcat).sum ≤ 8) (g : WP l E R A Y k n (pc + 3) ls (xps r st) M') : WP l E R A Y k n pc ls (st) M := x_callSP F hM hl hv hR hcs hst rfl d (fun _ _ h => by rw [h.1, h.2]; exact g)
theorem x_S0P {l : Launch} {E : xE} {R : Room} {A : Nat → Prop} {Y : xY} {cc : ByteArray} {own : String} {nL : Nat} {k n pc : Nat} {ls st : List xV} {M : xM} {y : MethodName} {cy : ByteArray} {nLy : Nat} {rty : Option FieldType} {d' idx : Nat} {post : xV → xM → Prop} (F : xFix E A Y cc own nL) (hM : XP l E d' y cy nLy rty [] M post) (hl : xML own idx y) (hv : xMS y cy nLy rty 0) (d : decode cc pc = .ok (.invokestatic idx, 3)) (hR : d' + 1 ≤ R.frames ∧ 8 + (nLy + 11) + 64 * d' ≤ R.locals) (hcs : k ≤ R.cells ∧ n ≤ R.slots) (hst : (st.map xcat).sum ≤ 8) (g : ∀ r M', post r M' → WP l E R A Y k n (pc + 3) ls (xps r st) M') : WP l E R A Y k n pc ls (st) M := x_callSP F hM hl hv hR hcs hst rfl d g
theorem x_N0 {l : Launch} {E : xE} {R : Room} {A : Nat → Prop} {Y : xY} {cc : ByteArray} {own : String} {nL : Nat} {k n pc : Nat} {ls st : List xV} {M : xM} {y : MethodName} {cy : ByteArray} {nLy : Nat} {rty : Option FieldType} {d' idx : Nat} {r : xV} {M' : xM} (F : xFix E A Y cc own nL) (hM : XF l E d' y cy nLy rty [] M r M') (hl : xMN own idx y) (hv : xMS y cy nLy rty 0) (d : decode cc pc = .ok (.invokestatic idx, 3)) (hR : d' + 1 ≤ R.frames ∧ 8 + (nLy + 11) + 64 * d' ≤ R.locals) (hcs : k ≤ R.cells ∧ n ≤ R.slots) (hst : (st.map xcat).sum ≤ 8) (g : WP l E R A Y k n (pc + 3) ls (xps r st) M') : WP l E R A Y k n pc ls (st) M := x_callNP F hM hl hv hR hcs hst rfl d (fun _ _ h => by rw [h.1, h.2]; exact g)
theorem x_V1 {l : Launch} {E : xE} {R : Room} {A : Nat → Prop} {Y : xY} {cc : ByteArray} {own : String} {nL : Nat} {k n pc : Nat} {ls st : List xV} {M : xM} {y : MethodName} {cy : ByteArray} {nLy : Nat} {rty : Option FieldType} {d' idx : Nat} {r : xV} {M' : xM} {v0 : xV} (F : xFix E A Y cc own nL) {b ci N9 : Nat} (hM : XF l E d' y cy nLy rty (vA b :: [v0]) M r M') (hl : xML own idx y) (hv : xMV y cy nLy rty 1) (hk : xk b = (ci, N9)) (d : decode cc pc = .ok (.invokevirtual idx, 3)) (hc8 : ci < 8) (hci : vwCl[ci]?.map (fun q => q.1) = some y.cls) (hR : d' + 1 ≤ R.frames ∧ 8 + (nLy + 11) + 64 * d' ≤ R.locals) (hcs : k ≤ R.cells ∧ n ≤ R.slots) (hst : (st.map xcat).sum ≤ 8) (g : WP l E R A Y k n (pc + 3) ls (xps r st) M') : WP l E R A Y k n pc ls (v0 :: vA b :: st) M := x_callVP F hM hl hv hk hc8 hci hR hcs hst rfl d (fun _ _ h => by rw [h.1, h.2]; exact g)
theorem x_V1P {l : Launch} {E : xE} {R : Room} {A : Nat → Prop} {Y : xY} {cc : ByteArray} {own : String} {nL : Nat} {k n pc : Nat} {ls st : List xV} {M : xM} {y : MethodName} {cy : ByteArray} {nLy : Nat} {rty : Option FieldType} {d' idx : Nat} {post : xV → xM → Prop} {v0 : xV} (F : xFix E A Y cc own nL) {b ci N9 : Nat} (hM : XP l E d' y cy nLy rty (vA b :: [v0]) M post) (hl : xML own idx y) (hv : xMV y cy nLy rty 1) (hk : xk b = (ci, N9)) (d : decode cc pc = .ok (.invokevirtual idx, 3)) (hc8 : ci < 8) (hci : vwCl[ci]?.map (fun q => q.1) = some y.cls) (hR : d' + 1 ≤ R.frames ∧ 8 + (nLy + 11) + 64 * d' ≤ R.locals) (hcs : k ≤ R.cells ∧ n ≤ R.slots) (hst : (st.map xcat).sum ≤ 8) (g : ∀ r M', post r M' → WP l E R A Y k n (pc + 3) ls (xps r st) M') : WP l E R A Y k n pc ls (v0 :: vA b :: st) M := x_callVP F hM hl hv hk hc8 hci hR hcs hst rfl d g
theorem x_S1 {l : Launch} {E : xE} {R : Room} {A : Nat → Prop} {Y : xY} {cc : ByteArray} {own : String} {nL : Nat} {k n pc : Nat} {ls st : List xV} {M : xM} {y : MethodName} {cy : ByteArray} {nLy : Nat} {rty : Option FieldType} {d' idx : Nat} {r : xV} {M' : xM} {v0 : xV} (F : xFix E A Y cc own nL) (hM : XF l E d' y cy nLy rty [v0] M r M') (hl : xML own idx y) (hv : xMS y cy nLy rty 1) (d : decode cc pc = .ok (.invokestatic idx, 3)) (hR : d' + 1 ≤ R.frames ∧ 8 + (nLy + 11) + 64 * d' ≤ R.locals) (hcs : k ≤ R.cells ∧ n ≤ R.slots) (hst : (st.map xcat).sum ≤ 8) (g : WP l E R A Y k n (pc + 3) ls (xps r st) M') : WP l E R A Y k n pc ls (v0 :: st) M := x_callSP F hM hl hv hR hcs hst rfl d (fun _ _ h => by rw [h.1, h.2]; exact g)
theorem x_S1P {l : Launch} {E : xE} {R : Room} {A : Nat → Prop} {Y : xY} {cc : ByteArray} {own : String} {nL : Nat} {k n pc : Nat} {ls st : List xV} {M : xM} {y : MethodName} {cy : ByteArray} {nLy : Nat} {rty : Option FieldType} {d' idx : Nat} {post : xV → xM → Prop} {v0 : xV} (F : xFix E A Y cc own nL) (hM : XP l E d' y cy nLy rty [v0] M post) (hl : xML own idx y) (hv : xMS y cy nLy rty 1) (d : decode cc pc = .ok (.invokestatic idx, 3)) (hR : d' + 1 ≤ R.frames ∧ 8 + (nLy + 11) + 64 * d' ≤ R.locals) (hcs : k ≤ R.cells ∧ n ≤ R.slots) (hst : (st.map xcat).sum ≤ 8) (g : ∀ r M', post r M' → WP l E R A Y k n (pc + 3) ls (xps r st) M') : WP l E R A Y k n pc ls (v0 :: st) M := x_callSP F hM hl hv hR hcs hst rfl d g
theorem x_N1 {l : Launch} {E : xE} {R : Room} {A : Nat → Prop} {Y : xY} {cc : ByteArray} {own : String} {nL : Nat} {k n pc : Nat} {ls st : List xV} {M : xM} {y : MethodName} {cy : ByteArray} {nLy : Nat} {rty : Option FieldType} {d' idx : Nat} {r : xV} {M' : xM} {v0 : xV} (F : xFix E A Y cc own nL) (hM : XF l E d' y cy nLy rty [v0] M r M') (hl : xMN own idx y) (hv : xMS y cy nLy rty 1) (d : decode cc pc = .ok (.invokestatic idx, 3)) (hR : d' + 1 ≤ R.frames ∧ 8 + (nLy + 11) + 64 * d' ≤ R.locals) (hcs : k ≤ R.cells ∧ n ≤ R.slots) (hst : (st.map xcat).sum ≤ 8) (g : WP l E R A Y k n (pc + 3) ls (xps r st) M') : WP l E R A Y k n pc ls (v0 :: st) M := x_callNP F hM hl hv hR hcs hst rfl d (fun _ _ h => by rw [h.1, h.2]; exact g)
theorem x_V2 {l : Launch} {E : xE} {R : Room} {A : Nat → Prop} {Y : xY} {cc : ByteArray} {own : String} {nL : Nat} {k n pc : Nat} {ls st : List xV} {M : xM} {y : MethodName} {cy : ByteArray} {nLy : Nat} {rty : Option FieldType} {d' idx : Nat} {r : xV} {M' : xM} {v0 v1 : xV} (F : xFix E A Y cc own nL) {b ci N9 : Nat} (hM : XF l E d' y cy nLy rty (vA b :: [v0, v1]) M r M') (hl : xML own idx y) (hv : xMV y cy nLy rty 2) (hk : xk b = (ci, N9)) (d : decode cc pc = .ok (.invokevirtual idx, 3)) (hc8 : ci < 8) (hci : vwCl[ci]?.map (fun q => q.1) = some y.cls) (hR : d' + 1 ≤ R.frames ∧ 8 + (nLy + 11) + 64 * d' ≤ R.locals) (hcs : k ≤ R.cells ∧ n ≤ R.slots) (hst : (st.map xcat).sum ≤ 8) (g : WP l E R A Y k n (pc + 3) ls (xps r st) M') : WP l E R A Y k n pc ls (v1 :: v0 :: vA b :: st) M := x_callVP F hM hl hv hk hc8 hci hR hcs hst rfl d (fun _ _ h => by rw [h.1, h.2]; exact g)
theorem x_V2P {l : Launch} {E : xE} {R : Room} {A : Nat → Prop} {Y : xY} {cc : ByteArray} {own : String} {nL : Nat} {k n pc : Nat} {ls st : List xV} {M : xM} {y : MethodName} {cy : ByteArray} {nLy : Nat} {rty : Option FieldType} {d' idx : Nat} {post : xV → xM → Prop} {v0 v1 : xV} (F : xFix E A Y cc own nL) {b ci N9 : Nat} (hM : XP l E d' y cy nLy rty (vA b :: [v0, v1]) M post) (hl : xML own idx y) (hv : xMV y cy nLy rty 2) (hk : xk b = (ci, N9)) (d : decode cc pc = .ok (.invokevirtual idx, 3)) (hc8 : ci < 8) (hci : vwCl[ci]?.map (fun q => q.1) = some y.cls) (hR : d' + 1 ≤ R.frames ∧ 8 + (nLy + 11) + 64 * d' ≤ R.locals) (hcs : k ≤ R.cells ∧ n ≤ R.slots) (hst : (st.map xcat).sum ≤ 8) (g : ∀ r M', post r M' → WP l E R A Y k n (pc + 3) ls (xps r st) M') : WP l E R A Y k n pc ls (v1 :: v0 :: vA b :: st) M := x_callVP F hM hl hv hk hc8 hci hR hcs hst rfl d g
theorem x_S2 {l : Launch} {E : xE} {R : Room} {A : Nat → Prop} {Y : xY} {cc : ByteArray} {own : String} {nL : Nat} {k n pc : Nat} {ls st : List xV} {M : xM} {y : MethodName} {cy : ByteArray} {nLy : Nat} {rty : Option FieldType} {d' idx : Nat} {r : xV} {M' : xM} {v0 v1 : xV} (F : xFix E A Y cc own nL) (hM : XF l E d' y cy nLy rty [v0, v1] M r M') (hl : xML own idx y) (hv : xMS y cy nLy rty 2) (d : decode cc pc = .ok (.invokestatic idx, 3)) (hR : d' + 1 ≤ R.frames ∧ 8 + (nLy + 11) + 64 * d' ≤ R.locals) (hcs : k ≤ R.cells ∧ n ≤ R.slots) (hst : (st.map xcat).sum ≤ 8) (g : WP l E R A Y k n (pc + 3) ls (xps r st) M') : WP l E R A Y k n pc ls (v1 :: v0 :: st) M := x_callSP F hM hl hv hR hcs hst rfl d (fun _ _ h => by rw [h.1, h.2]; exact g)
theorem x_S2P {l : Launch} {E : xE} {R : Room} {A : Nat → Prop} {Y : xY} {cc : ByteArray} {own : String} {nL : Nat} {k n pc : Nat} {ls st : List xV} {M : xM} {y : MethodName} {cy : ByteArray} {nLy : Nat} {rty : Option FieldType} {d' idx : Nat} {post : xV → xM → Prop} {v0 v1 : xV} (F : xFix E A Y cc own nL) (hM : XP l E d' y cy nLy rty [v0, v1] M post) (hl : xML own idx y) (hv : xMS y cy nLy rty 2) (d : decode cc pc = .ok (.invokestatic idx, 3)) (hR : d' + 1 ≤ R.frames ∧ 8 + (nLy + 11) + 64 * d' ≤ R.locals) (hcs : k ≤ R.cells ∧ n ≤ R.slots) (hst : (st.map xcat).sum ≤ 8) (g : ∀ r M', post r M' → WP l E R A Y k n (pc + 3) ls (xps r st) M') : WP l E R A Y k n pc ls (v1 :: v0 :: st) M := x_callSP F hM hl hv hR hcs hst rfl d g
theorem x_N2 {l : Launch} {E : xE} {R : Room} {A : Nat → Prop} {Y : xY} {cc : ByteArray} {own : String} {nL : Nat} {k n pc : Nat} {ls st : List xV} {M : xM} {y : MethodName} {cy : ByteArray} {nLy : Nat} {rty : Option FieldType} {d' idx : Nat} {r : xV} {M' : xM} {v0 v1 : xV} (F : xFix E A Y cc own nL) (hM : XF l E d' y cy nLy rty [v0, v1] M r M') (hl : xMN own idx y) (hv : xMS y cy nLy rty 2) (d : decode cc pc = .ok (.invokestatic idx, 3)) (hR : d' + 1 ≤ R.frames ∧ 8 + (nLy + 11) + 64 * d' ≤ R.locals) (hcs : k ≤ R.cells ∧ n ≤ R.slots) (hst : (st.map xcat).sum ≤ 8) (g : WP l E R A Y k n (pc + 3) ls (xps r st) M') : WP l E R A Y k n pc ls (v1 :: v0 :: st) M := x_callNP F hM hl hv hR hcs hst rfl d (fun _ _ h => by rw [h.1, h.2]; exact g)
theorem x_V3 {l : Launch} {E : xE} {R : Room} {A : Nat → Prop} {Y : xY} {cc : ByteArray} {own : String} {nL : Nat} {k n pc : Nat} {ls st : List xV} {M : xM} {y : MethodName} {cy : ByteArray} {nLy : Nat} {rty : Option FieldType} {d' idx : Nat} {r : xV} {M' : xM} {v0 v1 v2 : xV} (F : xFix E A Y cc own nL) {b ci N9 : Nat} (hM : XF l E d' y cy nLy rty (vA b :: [v0, v1, v2]) M r M') (hl : xML own idx y) (hv : xMV y cy nLy rty 3) (hk : xk b = (ci, N9)) (d : decode cc pc = .ok (.invokevirtual idx, 3)) (hc8 : ci < 8) (hci : vwCl[ci]?.map (fun q => q.1) = some y.cls) (hR : d' + 1 ≤ R.frames ∧ 8 + (nLy + 11) + 64 * d' ≤ R.locals) (hcs : k ≤ R.cells ∧ n ≤ R.slots) (hst : (st.map xcat).sum ≤ 8) (g : WP l E R A Y k n (pc + 3) ls (xps r st) M') : WP l E R A Y k n pc ls (v2 :: v1 :: v0 :: vA b :: st) M := x_callVP F hM hl hv hk hc8 hci hR hcs hst rfl d (fun _ _ h => by rw [h.1, h.2]; exact g)
theorem x_V3P {l : Launch} {E : xE} {R : Room} {A : Nat → Prop} {Y : xY} {cc : ByteArray} {own : String} {nL : Nat} {k n pc : Nat} {ls st : List xV} {M : xM} {y : MethodName} {cy : ByteArray} {nLy : Nat} {rty : Option FieldType} {d' idx : Nat} {post : xV → xM → Prop} {v0 v1 v2 : xV} (F : xFix E A Y cc own nL) {b ci N9 : Nat} (hM : XP l E d' y cy nLy rty (vA b :: [v0, v1, v2]) M post) (hl : xML own idx y) (hv : xMV y cy nLy rty 3) (hk : xk b = (ci, N9)) (d : decode cc pc = .ok (.invokevirtual idx, 3)) (hc8 : ci < 8) (hci : vwCl[ci]?.map (fun q => q.1) = some y.cls) (hR : d' + 1 ≤ R.frames ∧ 8 + (nLy + 11) + 64 * d' ≤ R.locals) (hcs : k ≤ R.cells ∧ n ≤ R.slots) (hst : (st.map xcat).sum ≤ 8) (g : ∀ r M', post r M' → WP l E R A Y k n (pc + 3) ls (xps r st) M') : WP l E R A Y k n pc ls (v2 :: v1 :: v0 :: vA b :: st) M := x_callVP F hM hl hv hk hc8 hci hR hcs hst rfl d g
theorem x_S3 {l : Launch} {E : xE} {R : Room} {A : Nat → Prop} {Y : xY} {cc : ByteArray} {own : String} {nL : Nat} {k n pc : Nat} {ls st : List xV} {M : xM} {y : MethodName} {cy : ByteArray} {nLy : Nat} {rty : Option FieldType} {d' idx : Nat} {r : xV} {M' : xM} {v0 v1 v2 : xV} (F : xFix E A Y cc own nL) (hM : XF l E d' y cy nLy rty [v0, v1, v2] M r M') (hl : xML own idx y) (hv : xMS y cy nLy rty 3) (d : decode cc pc = .ok (.invokestatic idx, 3)) (hR : d' + 1 ≤ R.frames ∧ 8 + (nLy + 11) + 64 * d' ≤ R.locals) (hcs : k ≤ R.cells ∧ n ≤ R.slots) (hst : (st.map xcat).sum ≤ 8) (g : WP l E R A Y k n (pc + 3) ls (xps r st) M') : WP l E R A Y k n pc ls (v2 :: v1 :: v0 :: st) M := x_callSP F hM hl hv hR hcs hst rfl d (fun _ _ h => by rw [h.1, h.2]; exact g)
theorem x_S3P {l : Launch} {E : xE} {R : Room} {A : Nat → Prop} {Y : xY} {cc : ByteArray} {own : String} {nL : Nat} {k n pc : Nat} {ls st : List xV} {M : xM} {y : MethodName} {cy : ByteArray} {nLy : Nat} {rty : Option FieldType} {d' idx : Nat} {post : xV → xM → Prop} {v0 v1 v2 : xV} (F : xFix E A Y cc own nL) (hM : XP l E d' y cy nLy rty [v0, v1, v2] M post) (hl : xML own idx y) (hv : xMS y cy nLy rty 3) (d : decode cc pc = .ok (.invokestatic idx, 3)) (hR : d' + 1 ≤ R.frames ∧ 8 + (nLy + 11) + 64 * d' ≤ R.locals) (hcs : k ≤ R.cells ∧ n ≤ R.slots) (hst : (st.map xcat).sum ≤ 8) (g : ∀ r M', post r M' → WP l E R A Y k n (pc + 3) ls (xps r st) M') : WP l E R A Y k n pc ls (v2 :: v1 :: v0 :: st) M := x_callSP F hM hl hv hR hcs hst rfl d g
theorem x_N3 {l : Launch} {E : xE} {R : Room} {A : Nat → Prop} {Y : xY} {cc : ByteArray} {own : String} {nL : Nat} {k n pc : Nat} {ls st : List xV} {M : xM} {y : MethodName} {cy : ByteArray} {nLy : Nat} {rty : Option FieldType} {d' idx : Nat} {r : xV} {M' : xM} {v0 v1 v2 : xV} (F : xFix E A Y cc own nL) (hM : XF l E d' y cy nLy rty [v0, v1, v2] M r M') (hl : xMN own idx y) (hv : xMS y cy nLy rty 3) (d : decode cc pc = .ok (.invokestatic idx, 3)) (hR : d' + 1 ≤ R.frames ∧ 8 + (nLy + 11) + 64 * d' ≤ R.locals) (hcs : k ≤ R.cells ∧ n ≤ R.slots) (hst : (st.map xcat).sum ≤ 8) (g : WP l E R A Y k n (pc + 3) ls (xps r st) M') : WP l E R A Y k n pc ls (v2 :: v1 :: v0 :: st) M := x_callNP F hM hl hv hR hcs hst rfl d (fun _ _ h => by rw [h.1, h.2]; exact g)
theorem x_V4 {l : Launch} {E : xE} {R : Room} {A : Nat → Prop} {Y : xY} {cc : ByteArray} {own : String} {nL : Nat} {k n pc : Nat} {ls st : List xV} {M : xM} {y : MethodName} {cy : ByteArray} {nLy : Nat} {rty : Option FieldType} {d' idx : Nat} {r : xV} {M' : xM} {v0 v1 v2 v3 : xV} (F : xFix E A Y cc own nL) {b ci N9 : Nat} (hM : XF l E d' y cy nLy rty (vA b :: [v0, v1, v2, v3]) M r M') (hl : xML own idx y) (hv : xMV y cy nLy rty 4) (hk : xk b = (ci, N9)) (d : decode cc pc = .ok (.invokevirtual idx, 3)) (hc8 : ci < 8) (hci : vwCl[ci]?.map (fun q => q.1) = some y.cls) (hR : d' + 1 ≤ R.frames ∧ 8 + (nLy + 11) + 64 * d' ≤ R.locals) (hcs : k ≤ R.cells ∧ n ≤ R.slots) (hst : (st.map xcat).sum ≤ 8) (g : WP l E R A Y k n (pc + 3) ls (xps r st) M') : WP l E R A Y k n pc ls (v3 :: v2 :: v1 :: v0 :: vA b :: st) M := x_callVP F hM hl hv hk hc8 hci hR hcs hst rfl d (fun _ _ h => by rw [h.1, h.2]; exact g)
theorem x_V4P {l : Launch} {E : xE} {R : Room} {A : Nat → Prop} {Y : xY} {cc : ByteArray} {own : String} {nL : Nat} {k n pc : Nat} {ls st : List xV} {M : xM} {y : MethodName} {cy : ByteArray} {nLy : Nat} {rty : Option FieldType} {d' idx : Nat} {post : xV → xM → Prop} {v0 v1 v2 v3 : xV} (F : xFix E A Y cc own nL) {b ci N9 : Nat} (hM : XP l E d' y cy nLy rty (vA b :: [v0, v1, v2, v3]) M post) (hl : xML own idx y) (hv : xMV y cy nLy rty 4) (hk : xk b = (ci, N9)) (d : decode cc pc = .ok (.invokevirtual idx, 3)) (hc8 : ci < 8) (hci : vwCl[ci]?.map (fun q => q.1) = some y.cls) (hR : d' + 1 ≤ R.frames ∧ 8 + (nLy + 11) + 64 * d' ≤ R.locals) (hcs : k ≤ R.cells ∧ n ≤ R.slots) (hst : (st.map xcat).sum ≤ 8) (g : ∀ r M', post r M' → WP l E R A Y k n (pc + 3) ls (xps r st) M') : WP l E R A Y k n pc ls (v3 :: v2 :: v1 :: v0 :: vA b :: st) M := x_callVP F hM hl hv hk hc8 hci hR hcs hst rfl d g
theorem x_S4 {l : Launch} {E : xE} {R : Room} {A : Nat → Prop} {Y : xY} {cc : ByteArray} {own : String} {nL : Nat} {k n pc : Nat} {ls st : List xV} {M : xM} {y : MethodName} {cy : ByteArray} {nLy : Nat} {rty : Option FieldType} {d' idx : Nat} {r : xV} {M' : xM} {v0 v1 v2 v3 : xV} (F : xFix E A Y cc own nL) (hM : XF l E d' y cy nLy rty [v0, v1, v2, v3] M r M') (hl : xML own idx y) (hv : xMS y cy nLy rty 4) (d : decode cc pc = .ok (.invokestatic idx, 3)) (hR : d' + 1 ≤ R.frames ∧ 8 + (nLy + 11) + 64 * d' ≤ R.locals) (hcs : k ≤ R.cells ∧ n ≤ R.slots) (hst : (st.map xcat).sum ≤ 8) (g : WP l E R A Y k n (pc + 3) ls (xps r st) M') : WP l E R A Y k n pc ls (v3 :: v2 :: v1 :: v0 :: st) M := x_callSP F hM hl hv hR hcs hst rfl d (fun _ _ h => by rw [h.1, h.2]; exact g)
theorem x_S4P {l : Launch} {E : xE} {R : Room} {A : Nat → Prop} {Y : xY} {cc : ByteArray} {own : String} {nL : Nat} {k n pc : Nat} {ls st : List xV} {M : xM} {y : MethodName} {cy : ByteArray} {nLy : Nat} {rty : Option FieldType} {d' idx : Nat} {post : xV → xM → Prop} {v0 v1 v2 v3 : xV} (F : xFix E A Y cc own nL) (hM : XP l E d' y cy nLy rty [v0, v1, v2, v3] M post) (hl : xML own idx y) (hv : xMS y cy nLy rty 4) (d : decode cc pc = .ok (.invokestatic idx, 3)) (hR : d' + 1 ≤ R.frames ∧ 8 + (nLy + 11) + 64 * d' ≤ R.locals) (hcs : k ≤ R.cells ∧ n ≤ R.slots) (hst : (st.map xcat).sum ≤ 8) (g : ∀ r M', post r M' → WP l E R A Y k n (pc + 3) ls (xps r st) M') : WP l E R A Y k n pc ls (v3 :: v2 :: v1 :: v0 :: st) M := x_callSP F hM hl hv hR hcs hst rfl d g
theorem x_N4 {l : Launch} {E : xE} {R : Room} {A : Nat → Prop} {Y : xY} {cc : ByteArray} {own : String} {nL : Nat} {k n pc : Nat} {ls st : List xV} {M : xM} {y : MethodName} {cy : ByteArray} {nLy : Nat} {rty : Option FieldType} {d' idx : Nat} {r : xV} {M' : xM} {v0 v1 v2 v3 : xV} (F : xFix E A Y cc own nL) (hM : XF l E d' y cy nLy rty [v0, v1, v2, v3] M r M') (hl : xMN own idx y) (hv : xMS y cy nLy rty 4) (d : decode cc pc = .ok (.invokestatic idx, 3)) (hR : d' + 1 ≤ R.frames ∧ 8 + (nLy + 11) + 64 * d' ≤ R.locals) (hcs : k ≤ R.cells ∧ n ≤ R.slots) (hst : (st.map xcat).sum ≤ 8) (g : WP l E R A Y k n (pc + 3) ls (xps r st) M') : WP l E R A Y k n pc ls (v3 :: v2 :: v1 :: v0 :: st) M := x_callNP F hM hl hv hR hcs hst rfl d (fun _ _ h => by rw [h.1, h.2]; exact g)
end
